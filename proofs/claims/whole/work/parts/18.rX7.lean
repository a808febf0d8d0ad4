theorem dX7_init_0 : decode prog_9_method_1_code 0 = .ok (.aload_n 0, 1) := by decide +kernel
theorem dX7_init_1 : decode prog_9_method_1_code 1 = .ok (.invokespecial 5, 3) := by decide +kernel
theorem dX7_init_4 : decode prog_9_method_1_code 4 = .ok (.aload_n 0, 1) := by decide +kernel
theorem dX7_init_5 : decode prog_9_method_1_code 5 = .ok (.new 11, 3) := by decide +kernel
theorem dX7_init_8 : decode prog_9_method_1_code 8 = .ok (.dup, 1) := by decide +kernel
theorem dX7_init_9 : decode prog_9_method_1_code 9 = .ok (.invokespecial 13, 3) := by decide +kernel
theorem dX7_init_12 : decode prog_9_method_1_code 12 = .ok (.putfield 14, 3) := by decide +kernel
theorem dX7_init_15 : decode prog_9_method_1_code 15 = .ok (.aload_n 0, 1) := by decide +kernel
theorem dX7_init_16 : decode prog_9_method_1_code 16 = .ok (.ldc 18, 2) := by decide +kernel
theorem dX7_init_18 : decode prog_9_method_1_code 18 = .ok (.newarray .int, 2) := by decide +kernel
theorem dX7_init_20 : decode prog_9_method_1_code 20 = .ok (.putfield 19, 3) := by decide +kernel
theorem dX7_init_23 : decode prog_9_method_1_code 23 = .ok (.aload_n 0, 1) := by decide +kernel
theorem dX7_init_24 : decode prog_9_method_1_code 24 = .ok (.bipush 6, 2) := by decide +kernel
theorem dX7_init_26 : decode prog_9_method_1_code 26 = .ok (.newarray .int, 2) := by decide +kernel
theorem dX7_init_28 : decode prog_9_method_1_code 28 = .ok (.putfield 23, 3) := by decide +kernel
theorem dX7_init_31 : decode prog_9_method_1_code 31 = .ok (.aload_n 0, 1) := by decide +kernel
theorem dX7_init_32 : decode prog_9_method_1_code 32 = .ok (.sipush 1600, 3) := by decide +kernel
theorem dX7_init_35 : decode prog_9_method_1_code 35 = .ok (.newarray .int, 2) := by decide +kernel
theorem dX7_init_37 : decode prog_9_method_1_code 37 = .ok (.putfield 26, 3) := by decide +kernel
theorem dX7_init_40 : decode prog_9_method_1_code 40 = .ok (.aload_n 0, 1) := by decide +kernel
theorem dX7_init_41 : decode prog_9_method_1_code 41 = .ok (.sipush 6400, 3) := by decide +kernel
theorem dX7_init_44 : decode prog_9_method_1_code 44 = .ok (.newarray .int, 2) := by decide +kernel
theorem dX7_init_46 : decode prog_9_method_1_code 46 = .ok (.putfield 29, 3) := by decide +kernel
theorem dX7_init_49 : decode prog_9_method_1_code 49 = .ok (.aload_n 0, 1) := by decide +kernel
theorem dX7_init_50 : decode prog_9_method_1_code 50 = .ok (.sipush 1600, 3) := by decide +kernel
theorem dX7_init_53 : decode prog_9_method_1_code 53 = .ok (.newarray .int, 2) := by decide +kernel
theorem dX7_init_55 : decode prog_9_method_1_code 55 = .ok (.putfield 32, 3) := by decide +kernel
theorem dX7_init_58 : decode prog_9_method_1_code 58 = .ok (.aload_n 0, 1) := by decide +kernel
theorem dX7_init_59 : decode prog_9_method_1_code 59 = .ok (.sipush 1600, 3) := by decide +kernel
theorem dX7_init_62 : decode prog_9_method_1_code 62 = .ok (.newarray .int, 2) := by decide +kernel
theorem dX7_init_64 : decode prog_9_method_1_code 64 = .ok (.putfield 35, 3) := by decide +kernel
theorem dX7_init_67 : decode prog_9_method_1_code 67 = .ok (.aload_n 0, 1) := by decide +kernel
theorem dX7_init_68 : decode prog_9_method_1_code 68 = .ok (.sipush 1600, 3) := by decide +kernel
theorem dX7_init_71 : decode prog_9_method_1_code 71 = .ok (.newarray .int, 2) := by decide +kernel
theorem dX7_init_73 : decode prog_9_method_1_code 73 = .ok (.putfield 38, 3) := by decide +kernel
theorem dX7_init_76 : decode prog_9_method_1_code 76 = .ok (.aload_n 0, 1) := by decide +kernel
theorem dX7_init_77 : decode prog_9_method_1_code 77 = .ok (.bipush 64, 2) := by decide +kernel
theorem dX7_init_79 : decode prog_9_method_1_code 79 = .ok (.newarray .int, 2) := by decide +kernel
theorem dX7_init_81 : decode prog_9_method_1_code 81 = .ok (.putfield 41, 3) := by decide +kernel
theorem dX7_init_84 : decode prog_9_method_1_code 84 = .ok (.aload_n 0, 1) := by decide +kernel
theorem dX7_init_85 : decode prog_9_method_1_code 85 = .ok (.iconst (-1), 1) := by decide +kernel
theorem dX7_init_86 : decode prog_9_method_1_code 86 = .ok (.putfield 44, 3) := by decide +kernel
theorem dX7_init_89 : decode prog_9_method_1_code 89 = .ok (.aload_n 0, 1) := by decide +kernel
theorem dX7_init_90 : decode prog_9_method_1_code 90 = .ok (.aload_n 1, 1) := by decide +kernel
theorem dX7_init_91 : decode prog_9_method_1_code 91 = .ok (.putfield 48, 3) := by decide +kernel
theorem dX7_init_94 : decode prog_9_method_1_code 94 = .ok (.aload_n 0, 1) := by decide +kernel
theorem dX7_init_95 : decode prog_9_method_1_code 95 = .ok (.aload_n 2, 1) := by decide +kernel
theorem dX7_init_96 : decode prog_9_method_1_code 96 = .ok (.putfield 52, 3) := by decide +kernel
theorem dX7_init_99 : decode prog_9_method_1_code 99 = .ok (.aload_n 0, 1) := by decide +kernel
theorem dX7_init_100 : decode prog_9_method_1_code 100 = .ok (.getfield 23, 3) := by decide +kernel
theorem dX7_init_103 : decode prog_9_method_1_code 103 = .ok (.iconst 1, 1) := by decide +kernel
theorem dX7_init_104 : decode prog_9_method_1_code 104 = .ok (.invokestatic 56, 3) := by decide +kernel
theorem dX7_init_107 : decode prog_9_method_1_code 107 = .ok (.return_, 1) := by decide +kernel
theorem rX7_init_0 {d : Nat} {h : Hp} {Q : Option PV → Hp → Prop} {st : List PV}{t : List (Option PV)} {v : Nat} : WP d mX7_init 0 (some (.inr (.inr v)) :: t) st h Q = WP d mX7_init 1 (some (.inr (.inr v)) :: t) (.inr (.inr v) :: st) h Q := WP_step dX7_init_0 rfl rfl rfl
theorem rX7_init_1 {d : Nat} {h : Hp} {Q : Option PV → Hp → Prop} {ls : List (Option PV)}{a : Nat} : WP d mX7_init 1 ls (.inr (.inr a) :: []) h Q = (200 ≤ a ∧ WP d mX7_init 4 ls [] h Q) := R_obj (n := 1) (M' := mX0_init) dX7_init_1 rfl rfl
theorem rX7_init_4 {d : Nat} {h : Hp} {Q : Option PV → Hp → Prop} {st : List PV}{t : List (Option PV)} {v : Nat} : WP d mX7_init 4 (some (.inr (.inr v)) :: t) st h Q = WP d mX7_init 5 (some (.inr (.inr v)) :: t) (.inr (.inr v) :: st) h Q := WP_step dX7_init_4 rfl rfl rfl
theorem rX7_init_5 {d : Nat} {h : Hp} {Q : Option PV → Hp → Prop} {st : List PV}{ls : List (Option PV)} : WP d mX7_init 5 ls st h Q = WP d mX7_init 8 ls (.inr (.inr (200 + hN h)) :: st) (nw h 8 0 4) Q := R_new dX7_init_5 rfl
theorem rX7_init_8 {d : Nat} {h : Hp} {Q : Option PV → Hp → Prop} {st : List PV}{ls : List (Option PV)}{a : Nat} : WP d mX7_init 8 ls (.inr (.inr a) :: st) h Q = WP d mX7_init 9 ls (.inr (.inr a) :: .inr (.inr a) :: st) h Q := WP_step dX7_init_8 rfl rfl rfl
theorem rX7_init_9 {d : Nat} {h : Hp} {Q : Option PV → Hp → Prop} {ls : List (Option PV)}{r0 r1 : PV}{v0 : Nat} : WP (d + 1) mX7_init 9 ls (.inr (.inr v0) :: [r0, r1]) h Q = (200 ≤ v0 ∧ WP d mX8_init 0 [some (.inr (.inr v0))] [] h (fun r h' => WP (d + 1) mX7_init 12 ls (psh r [r0, r1]) h' Q)) := R_callI (st := .inr (.inr v0) :: [r0, r1]) (M := mX7_init) (pc := 9) (kd := 3) (n := 1) (M' := mX8_init) (as := [.inr (.inr v0)]) (rest := [r0, r1]) (en := [some (.inr (.inr v0))]) dX7_init_9 rfl (Or.inr rfl) (Nat.le_of_ble_eq_true rfl) rfl rfl (Nat.le_of_ble_eq_true rfl) rfl rfl rfl
theorem rX7_init_12 {d : Nat} {h : Hp} {Q : Option PV → Hp → Prop} {st : List PV}{ls : List (Option PV)}{a : Nat} {v : Nat} : WP d mX7_init 12 ls (.inr (.inr v) :: .inr (.inr a) :: st) h Q = ((hK h a).1 = 7 ∧ 200 ≤ a ∧ WP d mX7_init 15 ls st (wR h a 1 v) Q) := R_put2 dX7_init_12 rfl
theorem rX7_init_15 {d : Nat} {h : Hp} {Q : Option PV → Hp → Prop} {st : List PV}{t : List (Option PV)} {v : Nat} : WP d mX7_init 15 (some (.inr (.inr v)) :: t) st h Q = WP d mX7_init 16 (some (.inr (.inr v)) :: t) (.inr (.inr v) :: st) h Q := WP_step dX7_init_15 rfl rfl rfl
theorem rX7_init_16 {d : Nat} {h : Hp} {Q : Option PV → Hp → Prop} {st : List PV}{ls : List (Option PV)} : WP d mX7_init 16 ls st h Q = WP d mX7_init 18 ls (.inl (38400) :: st) h Q := WP_step dX7_init_16 rfl rfl rfl
theorem rX7_init_18 {d : Nat} {h : Hp} {Q : Option PV → Hp → Prop} {st : List PV}{ls : List (Option PV)}{z : Int} : WP d mX7_init 18 ls (.inl z :: st) h Q = ((0 ≤ z ∧ z ≤ 100000) ∧ WP d mX7_init 20 ls (.inr (.inr (200 + hN h)) :: st) (nw h 21 z.toNat z.toNat) Q) := R_nwa dX7_init_18 rfl (by decide)
theorem rX7_init_20 {d : Nat} {h : Hp} {Q : Option PV → Hp → Prop} {st : List PV}{ls : List (Option PV)}{a : Nat} {v : Nat} : WP d mX7_init 20 ls (.inr (.inr v) :: .inr (.inr a) :: st) h Q = ((hK h a).1 = 7 ∧ 200 ≤ a ∧ WP d mX7_init 23 ls st (wR h a 2 v) Q) := R_put2 dX7_init_20 rfl
theorem rX7_init_23 {d : Nat} {h : Hp} {Q : Option PV → Hp → Prop} {st : List PV}{t : List (Option PV)} {v : Nat} : WP d mX7_init 23 (some (.inr (.inr v)) :: t) st h Q = WP d mX7_init 24 (some (.inr (.inr v)) :: t) (.inr (.inr v) :: st) h Q := WP_step dX7_init_23 rfl rfl rfl
theorem rX7_init_24 {d : Nat} {h : Hp} {Q : Option PV → Hp → Prop} {st : List PV}{ls : List (Option PV)} : WP d mX7_init 24 ls st h Q = WP d mX7_init 26 ls (.inl (6) :: st) h Q := WP_step dX7_init_24 rfl rfl rfl
theorem rX7_init_26 {d : Nat} {h : Hp} {Q : Option PV → Hp → Prop} {st : List PV}{ls : List (Option PV)}{z : Int} : WP d mX7_init 26 ls (.inl z :: st) h Q = ((0 ≤ z ∧ z ≤ 100000) ∧ WP d mX7_init 28 ls (.inr (.inr (200 + hN h)) :: st) (nw h 21 z.toNat z.toNat) Q) := R_nwa dX7_init_26 rfl (by decide)
theorem rX7_init_28 {d : Nat} {h : Hp} {Q : Option PV → Hp → Prop} {st : List PV}{ls : List (Option PV)}{a : Nat} {v : Nat} : WP d mX7_init 28 ls (.inr (.inr v) :: .inr (.inr a) :: st) h Q = ((hK h a).1 = 7 ∧ 200 ≤ a ∧ WP d mX7_init 31 ls st (wR h a 3 v) Q) := R_put2 dX7_init_28 rfl
theorem rX7_init_31 {d : Nat} {h : Hp} {Q : Option PV → Hp → Prop} {st : List PV}{t : List (Option PV)} {v : Nat} : WP d mX7_init 31 (some (.inr (.inr v)) :: t) st h Q = WP d mX7_init 32 (some (.inr (.inr v)) :: t) (.inr (.inr v) :: st) h Q := WP_step dX7_init_31 rfl rfl rfl
theorem rX7_init_32 {d : Nat} {h : Hp} {Q : Option PV → Hp → Prop} {st : List PV}{ls : List (Option PV)} : WP d mX7_init 32 ls st h Q = WP d mX7_init 35 ls (.inl (1600) :: st) h Q := WP_step dX7_init_32 rfl rfl rfl
theorem rX7_init_35 {d : Nat} {h : Hp} {Q : Option PV → Hp → Prop} {st : List PV}{ls : List (Option PV)}{z : Int} : WP d mX7_init 35 ls (.inl z :: st) h Q = ((0 ≤ z ∧ z ≤ 100000) ∧ WP d mX7_init 37 ls (.inr (.inr (200 + hN h)) :: st) (nw h 21 z.toNat z.toNat) Q) := R_nwa dX7_init_35 rfl (by decide)
theorem rX7_init_37 {d : Nat} {h : Hp} {Q : Option PV → Hp → Prop} {st : List PV}{ls : List (Option PV)}{a : Nat} {v : Nat} : WP d mX7_init 37 ls (.inr (.inr v) :: .inr (.inr a) :: st) h Q = ((hK h a).1 = 7 ∧ 200 ≤ a ∧ WP d mX7_init 40 ls st (wR h a 4 v) Q) := R_put2 dX7_init_37 rfl
theorem rX7_init_40 {d : Nat} {h : Hp} {Q : Option PV → Hp → Prop} {st : List PV}{t : List (Option PV)} {v : Nat} : WP d mX7_init 40 (some (.inr (.inr v)) :: t) st h Q = WP d mX7_init 41 (some (.inr (.inr v)) :: t) (.inr (.inr v) :: st) h Q := WP_step dX7_init_40 rfl rfl rfl
theorem rX7_init_41 {d : Nat} {h : Hp} {Q : Option PV → Hp → Prop} {st : List PV}{ls : List (Option PV)} : WP d mX7_init 41 ls st h Q = WP d mX7_init 44 ls (.inl (6400) :: st) h Q := WP_step dX7_init_41 rfl rfl rfl
theorem rX7_init_44 {d : Nat} {h : Hp} {Q : Option PV → Hp → Prop} {st : List PV}{ls : List (Option PV)}{z : Int} : WP d mX7_init 44 ls (.inl z :: st) h Q = ((0 ≤ z ∧ z ≤ 100000) ∧ WP d mX7_init 46 ls (.inr (.inr (200 + hN h)) :: st) (nw h 21 z.toNat z.toNat) Q) := R_nwa dX7_init_44 rfl (by decide)
theorem rX7_init_46 {d : Nat} {h : Hp} {Q : Option PV → Hp → Prop} {st : List PV}{ls : List (Option PV)}{a : Nat} {v : Nat} : WP d mX7_init 46 ls (.inr (.inr v) :: .inr (.inr a) :: st) h Q = ((hK h a).1 = 7 ∧ 200 ≤ a ∧ WP d mX7_init 49 ls st (wR h a 5 v) Q) := R_put2 dX7_init_46 rfl
theorem rX7_init_49 {d : Nat} {h : Hp} {Q : Option PV → Hp → Prop} {st : List PV}{t : List (Option PV)} {v : Nat} : WP d mX7_init 49 (some (.inr (.inr v)) :: t) st h Q = WP d mX7_init 50 (some (.inr (.inr v)) :: t) (.inr (.inr v) :: st) h Q := WP_step dX7_init_49 rfl rfl rfl
theorem rX7_init_50 {d : Nat} {h : Hp} {Q : Option PV → Hp → Prop} {st : List PV}{ls : List (Option PV)} : WP d mX7_init 50 ls st h Q = WP d mX7_init 53 ls (.inl (1600) :: st) h Q := WP_step dX7_init_50 rfl rfl rfl
theorem rX7_init_53 {d : Nat} {h : Hp} {Q : Option PV → Hp → Prop} {st : List PV}{ls : List (Option PV)}{z : Int} : WP d mX7_init 53 ls (.inl z :: st) h Q = ((0 ≤ z ∧ z ≤ 100000) ∧ WP d mX7_init 55 ls (.inr (.inr (200 + hN h)) :: st) (nw h 21 z.toNat z.toNat) Q) := R_nwa dX7_init_53 rfl (by decide)
theorem rX7_init_55 {d : Nat} {h : Hp} {Q : Option PV → Hp → Prop} {st : List PV}{ls : List (Option PV)}{a : Nat} {v : Nat} : WP d mX7_init 55 ls (.inr (.inr v) :: .inr (.inr a) :: st) h Q = ((hK h a).1 = 7 ∧ 200 ≤ a ∧ WP d mX7_init 58 ls st (wR h a 6 v) Q) := R_put2 dX7_init_55 rfl
theorem rX7_init_58 {d : Nat} {h : Hp} {Q : Option PV → Hp → Prop} {st : List PV}{t : List (Option PV)} {v : Nat} : WP d mX7_init 58 (some (.inr (.inr v)) :: t) st h Q = WP d mX7_init 59 (some (.inr (.inr v)) :: t) (.inr (.inr v) :: st) h Q := WP_step dX7_init_58 rfl rfl rfl
theorem rX7_init_59 {d : Nat} {h : Hp} {Q : Option PV → Hp → Prop} {st : List PV}{ls : List (Option PV)} : WP d mX7_init 59 ls st h Q = WP d mX7_init 62 ls (.inl (1600) :: st) h Q := WP_step dX7_init_59 rfl rfl rfl
theorem rX7_init_62 {d : Nat} {h : Hp} {Q : Option PV → Hp → Prop} {st : List PV}{ls : List (Option PV)}{z : Int} : WP d mX7_init 62 ls (.inl z :: st) h Q = ((0 ≤ z ∧ z ≤ 100000) ∧ WP d mX7_init 64 ls (.inr (.inr (200 + hN h)) :: st) (nw h 21 z.toNat z.toNat) Q) := R_nwa dX7_init_62 rfl (by decide)
theorem rX7_init_64 {d : Nat} {h : Hp} {Q : Option PV → Hp → Prop} {st : List PV}{ls : List (Option PV)}{a : Nat} {v : Nat} : WP d mX7_init 64 ls (.inr (.inr v) :: .inr (.inr a) :: st) h Q = ((hK h a).1 = 7 ∧ 200 ≤ a ∧ WP d mX7_init 67 ls st (wR h a 7 v) Q) := R_put2 dX7_init_64 rfl
theorem rX7_init_67 {d : Nat} {h : Hp} {Q : Option PV → Hp → Prop} {st : List PV}{t : List (Option PV)} {v : Nat} : WP d mX7_init 67 (some (.inr (.inr v)) :: t) st h Q = WP d mX7_init 68 (some (.inr (.inr v)) :: t) (.inr (.inr v) :: st) h Q := WP_step dX7_init_67 rfl rfl rfl
theorem rX7_init_68 {d : Nat} {h : Hp} {Q : Option PV → Hp → Prop} {st : List PV}{ls : List (Option PV)} : WP d mX7_init 68 ls st h Q = WP d mX7_init 71 ls (.inl (1600) :: st) h Q := WP_step dX7_init_68 rfl rfl rfl
theorem rX7_init_71 {d : Nat} {h : Hp} {Q : Option PV → Hp → Prop} {st : List PV}{ls : List (Option PV)}{z : Int} : WP d mX7_init 71 ls (.inl z :: st) h Q = ((0 ≤ z ∧ z ≤ 100000) ∧ WP d mX7_init 73 ls (.inr (.inr (200 + hN h)) :: st) (nw h 21 z.toNat z.toNat) Q) := R_nwa dX7_init_71 rfl (by decide)
theorem rX7_init_73 {d : Nat} {h : Hp} {Q : Option PV → Hp → Prop} {st : List PV}{ls : List (Option PV)}{a : Nat} {v : Nat} : WP d mX7_init 73 ls (.inr (.inr v) :: .inr (.inr a) :: st) h Q = ((hK h a).1 = 7 ∧ 200 ≤ a ∧ WP d mX7_init 76 ls st (wR h a 8 v) Q) := R_put2 dX7_init_73 rfl
theorem rX7_init_76 {d : Nat} {h : Hp} {Q : Option PV → Hp → Prop} {st : List PV}{t : List (Option PV)} {v : Nat} : WP d mX7_init 76 (some (.inr (.inr v)) :: t) st h Q = WP d mX7_init 77 (some (.inr (.inr v)) :: t) (.inr (.inr v) :: st) h Q := WP_step dX7_init_76 rfl rfl rfl
theorem rX7_init_77 {d : Nat} {h : Hp} {Q : Option PV → Hp → Prop} {st : List PV}{ls : List (Option PV)} : WP d mX7_init 77 ls st h Q = WP d mX7_init 79 ls (.inl (64) :: st) h Q := WP_step dX7_init_77 rfl rfl rfl
theorem rX7_init_79 {d : Nat} {h : Hp} {Q : Option PV → Hp → Prop} {st : List PV}{ls : List (Option PV)}{z : Int} : WP d mX7_init 79 ls (.inl z :: st) h Q = ((0 ≤ z ∧ z ≤ 100000) ∧ WP d mX7_init 81 ls (.inr (.inr (200 + hN h)) :: st) (nw h 21 z.toNat z.toNat) Q) := R_nwa dX7_init_79 rfl (by decide)
theorem rX7_init_81 {d : Nat} {h : Hp} {Q : Option PV → Hp → Prop} {st : List PV}{ls : List (Option PV)}{a : Nat} {v : Nat} : WP d mX7_init 81 ls (.inr (.inr v) :: .inr (.inr a) :: st) h Q = ((hK h a).1 = 7 ∧ 200 ≤ a ∧ WP d mX7_init 84 ls st (wR h a 9 v) Q) := R_put2 dX7_init_81 rfl
theorem rX7_init_84 {d : Nat} {h : Hp} {Q : Option PV → Hp → Prop} {st : List PV}{t : List (Option PV)} {v : Nat} : WP d mX7_init 84 (some (.inr (.inr v)) :: t) st h Q = WP d mX7_init 85 (some (.inr (.inr v)) :: t) (.inr (.inr v) :: st) h Q := WP_step dX7_init_84 rfl rfl rfl
theorem rX7_init_85 {d : Nat} {h : Hp} {Q : Option PV → Hp → Prop} {st : List PV}{ls : List (Option PV)} : WP d mX7_init 85 ls st h Q = WP d mX7_init 86 ls (.inl (-1) :: st) h Q := WP_step dX7_init_85 rfl rfl rfl
theorem rX7_init_86 {d : Nat} {h : Hp} {Q : Option PV → Hp → Prop} {st : List PV}{ls : List (Option PV)}{a : Nat} {v : Int} : WP d mX7_init 86 ls (.inl v :: .inr (.inr a) :: st) h Q = ((hK h a).1 = 7 ∧ 200 ≤ a ∧ WP d mX7_init 89 ls st (wI h a 11 v) Q) := R_put0 dX7_init_86 rfl
theorem rX7_init_89 {d : Nat} {h : Hp} {Q : Option PV → Hp → Prop} {st : List PV}{t : List (Option PV)} {v : Nat} : WP d mX7_init 89 (some (.inr (.inr v)) :: t) st h Q = WP d mX7_init 90 (some (.inr (.inr v)) :: t) (.inr (.inr v) :: st) h Q := WP_step dX7_init_89 rfl rfl rfl
theorem rX7_init_90 {d : Nat} {h : Hp} {Q : Option PV → Hp → Prop} {st : List PV}{x0 : Option PV} {t : List (Option PV)} {v : Nat} : WP d mX7_init 90 (x0 :: some (.inr (.inr v)) :: t) st h Q = WP d mX7_init 91 (x0 :: some (.inr (.inr v)) :: t) (.inr (.inr v) :: st) h Q := WP_step dX7_init_90 rfl rfl rfl
theorem rX7_init_91 {d : Nat} {h : Hp} {Q : Option PV → Hp → Prop} {st : List PV}{ls : List (Option PV)}{a : Nat} {v : Nat} : WP d mX7_init 91 ls (.inr (.inr v) :: .inr (.inr a) :: st) h Q = ((hK h a).1 = 7 ∧ 200 ≤ a ∧ WP d mX7_init 94 ls st (wR h a 0 v) Q) := R_put2 dX7_init_91 rfl
theorem rX7_init_94 {d : Nat} {h : Hp} {Q : Option PV → Hp → Prop} {st : List PV}{t : List (Option PV)} {v : Nat} : WP d mX7_init 94 (some (.inr (.inr v)) :: t) st h Q = WP d mX7_init 95 (some (.inr (.inr v)) :: t) (.inr (.inr v) :: st) h Q := WP_step dX7_init_94 rfl rfl rfl
theorem rX7_init_95 {d : Nat} {h : Hp} {Q : Option PV → Hp → Prop} {st : List PV}{x0 x1 : Option PV} {t : List (Option PV)} {v : Nat} : WP d mX7_init 95 (x0 :: x1 :: some (.inr (.inr v)) :: t) st h Q = WP d mX7_init 96 (x0 :: x1 :: some (.inr (.inr v)) :: t) (.inr (.inr v) :: st) h Q := WP_step dX7_init_95 rfl rfl rfl
theorem rX7_init_96 {d : Nat} {h : Hp} {Q : Option PV → Hp → Prop} {st : List PV}{ls : List (Option PV)}{a : Nat} {v : Nat} : WP d mX7_init 96 ls (.inr (.inr v) :: .inr (.inr a) :: st) h Q = ((hK h a).1 = 7 ∧ 200 ≤ a ∧ WP d mX7_init 99 ls st (wR h a 10 v) Q) := R_put2 dX7_init_96 rfl
theorem rX7_init_99 {d : Nat} {h : Hp} {Q : Option PV → Hp → Prop} {st : List PV}{t : List (Option PV)} {v : Nat} : WP d mX7_init 99 (some (.inr (.inr v)) :: t) st h Q = WP d mX7_init 100 (some (.inr (.inr v)) :: t) (.inr (.inr v) :: st) h Q := WP_step dX7_init_99 rfl rfl rfl
theorem rX7_init_100 {d : Nat} {h : Hp} {Q : Option PV → Hp → Prop} {st : List PV}{ls : List (Option PV)}{a : Nat} : WP d mX7_init 100 ls (.inr (.inr a) :: st) h Q = ((hK h a).1 = 7 ∧ WP d mX7_init 103 ls (.inr (.inr (hR h a 3)) :: st) h Q) := R_get2 dX7_init_100 rfl
theorem rX7_init_103 {d : Nat} {h : Hp} {Q : Option PV → Hp → Prop} {st : List PV}{ls : List (Option PV)} : WP d mX7_init 103 ls st h Q = WP d mX7_init 104 ls (.inl (1) :: st) h Q := WP_step dX7_init_103 rfl rfl rfl
theorem rX7_init_104 {d : Nat} {h : Hp} {Q : Option PV → Hp → Prop} {ls : List (Option PV)}{v0 : Nat} {v1 : Int} : WP (d + 1) mX7_init 104 ls (.inl v1 :: .inr (.inr v0) :: []) h Q = WP d mJ7_fill_53178 0 [some (.inr (.inr v0)), some (.inl v1), none, none] [] h (fun r h' => WP (d + 1) mX7_init 107 ls (psh r []) h' Q) := R_callS (st := .inl v1 :: .inr (.inr v0) :: []) (M := mX7_init) (pc := 104) (kd := 4) (n := 2) (M' := mJ7_fill_53178) (as := [.inl v1, .inr (.inr v0)]) (rest := []) (en := [some (.inr (.inr v0)), some (.inl v1), none, none]) dX7_init_104 rfl (Or.inl rfl) (Nat.le_of_ble_eq_true rfl) rfl (Nat.le_of_ble_eq_true rfl) rfl rfl rfl
theorem rX7_init_107 {d : Nat} {h : Hp} {Q : Option PV → Hp → Prop} {ls : List (Option PV)} : WP d mX7_init 107 ls [] h Q = Q none h := R_vret dX7_init_107 rfl
theorem dX7_begin_0 : decode prog_9_method_2_code 0 = .ok (.aload_n 0, 1) := by decide +kernel
theorem dX7_begin_1 : decode prog_9_method_2_code 1 = .ok (.getfield 44, 3) := by decide +kernel
theorem dX7_begin_4 : decode prog_9_method_2_code 4 = .ok (.iconst (-1), 1) := by decide +kernel
theorem dX7_begin_5 : decode prog_9_method_2_code 5 = .ok (.if_icmp .eq 43, 3) := by decide +kernel
theorem dX7_begin_8 : decode prog_9_method_2_code 8 = .ok (.aload_n 0, 1) := by decide +kernel
theorem dX7_begin_9 : decode prog_9_method_2_code 9 = .ok (.getfield 52, 3) := by decide +kernel
theorem dX7_begin_12 : decode prog_9_method_2_code 12 = .ok (.aload_n 1, 1) := by decide +kernel
theorem dX7_begin_13 : decode prog_9_method_2_code 13 = .ok (.if_acmp .ne 35, 3) := by decide +kernel
theorem dX7_begin_16 : decode prog_9_method_2_code 16 = .ok (.aload_n 0, 1) := by decide +kernel
theorem dX7_begin_17 : decode prog_9_method_2_code 17 = .ok (.getfield 14, 3) := by decide +kernel
theorem dX7_begin_20 : decode prog_9_method_2_code 20 = .ok (.getfield 62, 3) := by decide +kernel
theorem dX7_begin_23 : decode prog_9_method_2_code 23 = .ok (.aload_n 2, 1) := by decide +kernel
theorem dX7_begin_24 : decode prog_9_method_2_code 24 = .ok (.getfield 62, 3) := by decide +kernel
theorem dX7_begin_27 : decode prog_9_method_2_code 27 = .ok (.if_icmp .ne 21, 3) := by decide +kernel
theorem dX7_begin_30 : decode prog_9_method_2_code 30 = .ok (.aload_n 0, 1) := by decide +kernel
theorem dX7_begin_31 : decode prog_9_method_2_code 31 = .ok (.getfield 14, 3) := by decide +kernel
theorem dX7_begin_34 : decode prog_9_method_2_code 34 = .ok (.getfield 65, 3) := by decide +kernel
theorem dX7_begin_37 : decode prog_9_method_2_code 37 = .ok (.aload_n 2, 1) := by decide +kernel
theorem dX7_begin_38 : decode prog_9_method_2_code 38 = .ok (.getfield 65, 3) := by decide +kernel
theorem dX7_begin_41 : decode prog_9_method_2_code 41 = .ok (.if_icmp .ne 7, 3) := by decide +kernel
theorem dX7_begin_44 : decode prog_9_method_2_code 44 = .ok (.iconst 1, 1) := by decide +kernel
theorem dX7_begin_45 : decode prog_9_method_2_code 45 = .ok (.goto 4, 3) := by decide +kernel
theorem dX7_begin_48 : decode prog_9_method_2_code 48 = .ok (.iconst 0, 1) := by decide +kernel
theorem dX7_begin_49 : decode prog_9_method_2_code 49 = .ok (.istore_n 3, 1) := by decide +kernel
theorem dX7_begin_50 : decode prog_9_method_2_code 50 = .ok (.iconst 0, 1) := by decide +kernel
theorem dX7_begin_51 : decode prog_9_method_2_code 51 = .ok (.istore 4, 2) := by decide +kernel
theorem dX7_begin_53 : decode prog_9_method_2_code 53 = .ok (.iload 4, 2) := by decide +kernel
theorem dX7_begin_55 : decode prog_9_method_2_code 55 = .ok (.aload_n 1, 1) := by decide +kernel
theorem dX7_begin_56 : decode prog_9_method_2_code 56 = .ok (.getfield 68, 3) := by decide +kernel
theorem dX7_begin_59 : decode prog_9_method_2_code 59 = .ok (.if_icmp .ge 65, 3) := by decide +kernel
theorem dX7_begin_62 : decode prog_9_method_2_code 62 = .ok (.aload_n 0, 1) := by decide +kernel
theorem dX7_begin_63 : decode prog_9_method_2_code 63 = .ok (.getfield 52, 3) := by decide +kernel
theorem dX7_begin_66 : decode prog_9_method_2_code 66 = .ok (.aload_n 1, 1) := by decide +kernel
theorem dX7_begin_67 : decode prog_9_method_2_code 67 = .ok (.if_acmp .ne 43, 3) := by decide +kernel
theorem dX7_begin_70 : decode prog_9_method_2_code 70 = .ok (.aload_n 0, 1) := by decide +kernel
theorem dX7_begin_71 : decode prog_9_method_2_code 71 = .ok (.getfield 14, 3) := by decide +kernel
theorem dX7_begin_74 : decode prog_9_method_2_code 74 = .ok (.getfield 71, 3) := by decide +kernel
theorem dX7_begin_77 : decode prog_9_method_2_code 77 = .ok (.iload 4, 2) := by decide +kernel
theorem dX7_begin_79 : decode prog_9_method_2_code 79 = .ok (.iaload, 1) := by decide +kernel
theorem dX7_begin_80 : decode prog_9_method_2_code 80 = .ok (.aload_n 2, 1) := by decide +kernel
theorem dX7_begin_81 : decode prog_9_method_2_code 81 = .ok (.getfield 71, 3) := by decide +kernel
theorem dX7_begin_84 : decode prog_9_method_2_code 84 = .ok (.iload 4, 2) := by decide +kernel
theorem dX7_begin_86 : decode prog_9_method_2_code 86 = .ok (.iaload, 1) := by decide +kernel
theorem dX7_begin_87 : decode prog_9_method_2_code 87 = .ok (.if_icmp .ne 23, 3) := by decide +kernel
theorem dX7_begin_90 : decode prog_9_method_2_code 90 = .ok (.aload_n 0, 1) := by decide +kernel
theorem dX7_begin_91 : decode prog_9_method_2_code 91 = .ok (.getfield 14, 3) := by decide +kernel
theorem dX7_begin_94 : decode prog_9_method_2_code 94 = .ok (.getfield 74, 3) := by decide +kernel
theorem dX7_begin_97 : decode prog_9_method_2_code 97 = .ok (.iload 4, 2) := by decide +kernel
theorem dX7_begin_99 : decode prog_9_method_2_code 99 = .ok (.iaload, 1) := by decide +kernel
theorem dX7_begin_100 : decode prog_9_method_2_code 100 = .ok (.aload_n 2, 1) := by decide +kernel
theorem dX7_begin_101 : decode prog_9_method_2_code 101 = .ok (.getfield 74, 3) := by decide +kernel
theorem dX7_begin_104 : decode prog_9_method_2_code 104 = .ok (.iload 4, 2) := by decide +kernel
theorem dX7_begin_106 : decode prog_9_method_2_code 106 = .ok (.iaload, 1) := by decide +kernel
theorem dX7_begin_107 : decode prog_9_method_2_code 107 = .ok (.if_icmp .eq 11, 3) := by decide +kernel
theorem dX7_begin_110 : decode prog_9_method_2_code 110 = .ok (.aload_n 0, 1) := by decide +kernel
theorem dX7_begin_111 : decode prog_9_method_2_code 111 = .ok (.iload 4, 2) := by decide +kernel
theorem dX7_begin_113 : decode prog_9_method_2_code 113 = .ok (.invokevirtual 77, 3) := by decide +kernel
theorem dX7_begin_116 : decode prog_9_method_2_code 116 = .ok (.iconst 0, 1) := by decide +kernel
theorem dX7_begin_117 : decode prog_9_method_2_code 117 = .ok (.istore_n 3, 1) := by decide +kernel
theorem dX7_begin_118 : decode prog_9_method_2_code 118 = .ok (.iinc 4 1, 3) := by decide +kernel
theorem dX7_begin_121 : decode prog_9_method_2_code 121 = .ok (.goto (-68), 3) := by decide +kernel
theorem dX7_begin_124 : decode prog_9_method_2_code 124 = .ok (.iload_n 3, 1) := by decide +kernel
theorem dX7_begin_125 : decode prog_9_method_2_code 125 = .ok (.ifCond .ne 16, 3) := by decide +kernel
theorem dX7_begin_128 : decode prog_9_method_2_code 128 = .ok (.aload_n 0, 1) := by decide +kernel
theorem dX7_begin_129 : decode prog_9_method_2_code 129 = .ok (.iconst (-1), 1) := by decide +kernel
theorem dX7_begin_130 : decode prog_9_method_2_code 130 = .ok (.putfield 44, 3) := by decide +kernel
theorem dX7_begin_133 : decode prog_9_method_2_code 133 = .ok (.aload_n 0, 1) := by decide +kernel
theorem dX7_begin_134 : decode prog_9_method_2_code 134 = .ok (.getfield 41, 3) := by decide +kernel
theorem dX7_begin_137 : decode prog_9_method_2_code 137 = .ok (.iconst (-1), 1) := by decide +kernel
theorem dX7_begin_138 : decode prog_9_method_2_code 138 = .ok (.invokestatic 56, 3) := by decide +kernel
theorem dX7_begin_141 : decode prog_9_method_2_code 141 = .ok (.aload_n 0, 1) := by decide +kernel
theorem dX7_begin_142 : decode prog_9_method_2_code 142 = .ok (.aload_n 1, 1) := by decide +kernel
theorem dX7_begin_143 : decode prog_9_method_2_code 143 = .ok (.putfield 52, 3) := by decide +kernel
theorem dX7_begin_146 : decode prog_9_method_2_code 146 = .ok (.aload_n 0, 1) := by decide +kernel
theorem dX7_begin_147 : decode prog_9_method_2_code 147 = .ok (.getfield 14, 3) := by decide +kernel
theorem dX7_begin_150 : decode prog_9_method_2_code 150 = .ok (.aload_n 2, 1) := by decide +kernel
theorem dX7_begin_151 : decode prog_9_method_2_code 151 = .ok (.invokevirtual 81, 3) := by decide +kernel
theorem dX7_begin_154 : decode prog_9_method_2_code 154 = .ok (.return_, 1) := by decide +kernel
theorem rX7_begin_0 {d : Nat} {h : Hp} {Q : Option PV → Hp → Prop} {st : List PV}{t : List (Option PV)} {v : Nat} : WP d mX7_begin 0 (some (.inr (.inr v)) :: t) st h Q = WP d mX7_begin 1 (some (.inr (.inr v)) :: t) (.inr (.inr v) :: st) h Q := WP_step dX7_begin_0 rfl rfl rfl
theorem rX7_begin_1 {d : Nat} {h : Hp} {Q : Option PV → Hp → Prop} {st : List PV}{ls : List (Option PV)}{a : Nat} : WP d mX7_begin 1 ls (.inr (.inr a) :: st) h Q = ((hK h a).1 = 7 ∧ WP d mX7_begin 4 ls (.inl (hI h a 11) :: st) h Q) := R_get0 dX7_begin_1 rfl
theorem rX7_begin_4 {d : Nat} {h : Hp} {Q : Option PV → Hp → Prop} {st : List PV}{ls : List (Option PV)} : WP d mX7_begin 4 ls st h Q = WP d mX7_begin 5 ls (.inl (-1) :: st) h Q := WP_step dX7_begin_4 rfl rfl rfl
theorem rX7_begin_5 {d : Nat} {h : Hp} {Q : Option PV → Hp → Prop} {st : List PV}{ls : List (Option PV)}{a b : Int} : WP d mX7_begin 5 ls (.inl b :: .inl a :: st) h Q = (if a = b then WP d mX7_begin 48 ls st h Q else WP d mX7_begin 8 ls st h Q) := R_icmp_eq dX7_begin_5 (by decide)
theorem rX7_begin_8 {d : Nat} {h : Hp} {Q : Option PV → Hp → Prop} {st : List PV}{t : List (Option PV)} {v : Nat} : WP d mX7_begin 8 (some (.inr (.inr v)) :: t) st h Q = WP d mX7_begin 9 (some (.inr (.inr v)) :: t) (.inr (.inr v) :: st) h Q := WP_step dX7_begin_8 rfl rfl rfl
theorem rX7_begin_9 {d : Nat} {h : Hp} {Q : Option PV → Hp → Prop} {st : List PV}{ls : List (Option PV)}{a : Nat} : WP d mX7_begin 9 ls (.inr (.inr a) :: st) h Q = ((hK h a).1 = 7 ∧ WP d mX7_begin 12 ls (.inr (.inr (hR h a 10)) :: st) h Q) := R_get2 dX7_begin_9 rfl
theorem rX7_begin_12 {d : Nat} {h : Hp} {Q : Option PV → Hp → Prop} {st : List PV}{x0 : Option PV} {t : List (Option PV)} {v : Nat} : WP d mX7_begin 12 (x0 :: some (.inr (.inr v)) :: t) st h Q = WP d mX7_begin 13 (x0 :: some (.inr (.inr v)) :: t) (.inr (.inr v) :: st) h Q := WP_step dX7_begin_12 rfl rfl rfl
theorem rX7_begin_13 {d : Nat} {h : Hp} {Q : Option PV → Hp → Prop} {st : List PV}{ls : List (Option PV)}{a b : Nat} : WP d mX7_begin 13 ls (.inr (.inr b) :: .inr (.inr a) :: st) h Q = ((200 ≤ a ∧ 200 ≤ b) ∧ if a = b then WP d mX7_begin 16 ls st h Q else WP d mX7_begin 48 ls st h Q) := R_acmp_ne dX7_begin_13 (by decide)
theorem rX7_begin_16 {d : Nat} {h : Hp} {Q : Option PV → Hp → Prop} {st : List PV}{t : List (Option PV)} {v : Nat} : WP d mX7_begin 16 (some (.inr (.inr v)) :: t) st h Q = WP d mX7_begin 17 (some (.inr (.inr v)) :: t) (.inr (.inr v) :: st) h Q := WP_step dX7_begin_16 rfl rfl rfl
theorem rX7_begin_17 {d : Nat} {h : Hp} {Q : Option PV → Hp → Prop} {st : List PV}{ls : List (Option PV)}{a : Nat} : WP d mX7_begin 17 ls (.inr (.inr a) :: st) h Q = ((hK h a).1 = 7 ∧ WP d mX7_begin 20 ls (.inr (.inr (hR h a 1)) :: st) h Q) := R_get2 dX7_begin_17 rfl
theorem rX7_begin_20 {d : Nat} {h : Hp} {Q : Option PV → Hp → Prop} {st : List PV}{ls : List (Option PV)}{a : Nat} : WP d mX7_begin 20 ls (.inr (.inr a) :: st) h Q = ((hK h a).1 = 8 ∧ WP d mX7_begin 23 ls (.inl (hI h a 2) :: st) h Q) := R_get0 dX7_begin_20 rfl
theorem rX7_begin_23 {d : Nat} {h : Hp} {Q : Option PV → Hp → Prop} {st : List PV}{x0 x1 : Option PV} {t : List (Option PV)} {v : Nat} : WP d mX7_begin 23 (x0 :: x1 :: some (.inr (.inr v)) :: t) st h Q = WP d mX7_begin 24 (x0 :: x1 :: some (.inr (.inr v)) :: t) (.inr (.inr v) :: st) h Q := WP_step dX7_begin_23 rfl rfl rfl
theorem rX7_begin_24 {d : Nat} {h : Hp} {Q : Option PV → Hp → Prop} {st : List PV}{ls : List (Option PV)}{a : Nat} : WP d mX7_begin 24 ls (.inr (.inr a) :: st) h Q = ((hK h a).1 = 8 ∧ WP d mX7_begin 27 ls (.inl (hI h a 2) :: st) h Q) := R_get0 dX7_begin_24 rfl
theorem rX7_begin_27 {d : Nat} {h : Hp} {Q : Option PV → Hp → Prop} {st : List PV}{ls : List (Option PV)}{a b : Int} : WP d mX7_begin 27 ls (.inl b :: .inl a :: st) h Q = (if a = b then WP d mX7_begin 30 ls st h Q else WP d mX7_begin 48 ls st h Q) := R_icmp_ne dX7_begin_27 (by decide)
theorem rX7_begin_30 {d : Nat} {h : Hp} {Q : Option PV → Hp → Prop} {st : List PV}{t : List (Option PV)} {v : Nat} : WP d mX7_begin 30 (some (.inr (.inr v)) :: t) st h Q = WP d mX7_begin 31 (some (.inr (.inr v)) :: t) (.inr (.inr v) :: st) h Q := WP_step dX7_begin_30 rfl rfl rfl
theorem rX7_begin_31 {d : Nat} {h : Hp} {Q : Option PV → Hp → Prop} {st : List PV}{ls : List (Option PV)}{a : Nat} : WP d mX7_begin 31 ls (.inr (.inr a) :: st) h Q = ((hK h a).1 = 7 ∧ WP d mX7_begin 34 ls (.inr (.inr (hR h a 1)) :: st) h Q) := R_get2 dX7_begin_31 rfl
theorem rX7_begin_34 {d : Nat} {h : Hp} {Q : Option PV → Hp → Prop} {st : List PV}{ls : List (Option PV)}{a : Nat} : WP d mX7_begin 34 ls (.inr (.inr a) :: st) h Q = ((hK h a).1 = 8 ∧ WP d mX7_begin 37 ls (.inl (hI h a 3) :: st) h Q) := R_get0 dX7_begin_34 rfl
theorem rX7_begin_37 {d : Nat} {h : Hp} {Q : Option PV → Hp → Prop} {st : List PV}{x0 x1 : Option PV} {t : List (Option PV)} {v : Nat} : WP d mX7_begin 37 (x0 :: x1 :: some (.inr (.inr v)) :: t) st h Q = WP d mX7_begin 38 (x0 :: x1 :: some (.inr (.inr v)) :: t) (.inr (.inr v) :: st) h Q := WP_step dX7_begin_37 rfl rfl rfl
theorem rX7_begin_38 {d : Nat} {h : Hp} {Q : Option PV → Hp → Prop} {st : List PV}{ls : List (Option PV)}{a : Nat} : WP d mX7_begin 38 ls (.inr (.inr a) :: st) h Q = ((hK h a).1 = 8 ∧ WP d mX7_begin 41 ls (.inl (hI h a 3) :: st) h Q) := R_get0 dX7_begin_38 rfl
theorem rX7_begin_41 {d : Nat} {h : Hp} {Q : Option PV → Hp → Prop} {st : List PV}{ls : List (Option PV)}{a b : Int} : WP d mX7_begin 41 ls (.inl b :: .inl a :: st) h Q = (if a = b then WP d mX7_begin 44 ls st h Q else WP d mX7_begin 48 ls st h Q) := R_icmp_ne dX7_begin_41 (by decide)
theorem rX7_begin_44 {d : Nat} {h : Hp} {Q : Option PV → Hp → Prop} {st : List PV}{ls : List (Option PV)} : WP d mX7_begin 44 ls st h Q = WP d mX7_begin 45 ls (.inl (1) :: st) h Q := WP_step dX7_begin_44 rfl rfl rfl
theorem rX7_begin_45 {d : Nat} {h : Hp} {Q : Option PV → Hp → Prop} {st : List PV}{ls : List (Option PV)} : WP d mX7_begin 45 ls st h Q = WP d mX7_begin 49 ls st h Q := R_goto dX7_begin_45 (by decide)
theorem rX7_begin_48 {d : Nat} {h : Hp} {Q : Option PV → Hp → Prop} {st : List PV}{ls : List (Option PV)} : WP d mX7_begin 48 ls st h Q = WP d mX7_begin 49 ls (.inl (0) :: st) h Q := WP_step dX7_begin_48 rfl rfl rfl
theorem rX7_begin_49 {d : Nat} {h : Hp} {Q : Option PV → Hp → Prop} {st : List PV}{x0 x1 x2 x3 x4 : Option PV} {v : Int} : WP d mX7_begin 49 [x0, x1, x2, x3, x4] (.inl v :: st) h Q = WP d mX7_begin 50 [x0, x1, x2, some (.inl v), x4] st h Q := WP_step dX7_begin_49 rfl rfl rfl
theorem rX7_begin_50 {d : Nat} {h : Hp} {Q : Option PV → Hp → Prop} {st : List PV}{ls : List (Option PV)} : WP d mX7_begin 50 ls st h Q = WP d mX7_begin 51 ls (.inl (0) :: st) h Q := WP_step dX7_begin_50 rfl rfl rfl
theorem rX7_begin_51 {d : Nat} {h : Hp} {Q : Option PV → Hp → Prop} {st : List PV}{x0 x1 x2 x3 x4 : Option PV} {v : Int} : WP d mX7_begin 51 [x0, x1, x2, x3, x4] (.inl v :: st) h Q = WP d mX7_begin 53 [x0, x1, x2, x3, some (.inl v)] st h Q := WP_step dX7_begin_51 rfl rfl rfl
theorem rX7_begin_53 {d : Nat} {h : Hp} {Q : Option PV → Hp → Prop} {st : List PV}{x0 x1 x2 x3 : Option PV} {t : List (Option PV)} {v : Int} : WP d mX7_begin 53 (x0 :: x1 :: x2 :: x3 :: some (.inl v) :: t) st h Q = WP d mX7_begin 55 (x0 :: x1 :: x2 :: x3 :: some (.inl v) :: t) (.inl v :: st) h Q := WP_step dX7_begin_53 rfl rfl rfl
theorem rX7_begin_55 {d : Nat} {h : Hp} {Q : Option PV → Hp → Prop} {st : List PV}{x0 : Option PV} {t : List (Option PV)} {v : Nat} : WP d mX7_begin 55 (x0 :: some (.inr (.inr v)) :: t) st h Q = WP d mX7_begin 56 (x0 :: some (.inr (.inr v)) :: t) (.inr (.inr v) :: st) h Q := WP_step dX7_begin_55 rfl rfl rfl
theorem rX7_begin_56 {d : Nat} {h : Hp} {Q : Option PV → Hp → Prop} {st : List PV}{ls : List (Option PV)}{a : Nat} : WP d mX7_begin 56 ls (.inr (.inr a) :: st) h Q = ((hK h a).1 = 5 ∧ WP d mX7_begin 59 ls (.inl (hI h a 11) :: st) h Q) := R_get0 dX7_begin_56 rfl
theorem rX7_begin_59 {d : Nat} {h : Hp} {Q : Option PV → Hp → Prop} {st : List PV}{ls : List (Option PV)}{a b : Int} : WP d mX7_begin 59 ls (.inl b :: .inl a :: st) h Q = (if a < b then WP d mX7_begin 62 ls st h Q else WP d mX7_begin 124 ls st h Q) := R_icmp_ge dX7_begin_59 (by decide)
theorem rX7_begin_62 {d : Nat} {h : Hp} {Q : Option PV → Hp → Prop} {st : List PV}{t : List (Option PV)} {v : Nat} : WP d mX7_begin 62 (some (.inr (.inr v)) :: t) st h Q = WP d mX7_begin 63 (some (.inr (.inr v)) :: t) (.inr (.inr v) :: st) h Q := WP_step dX7_begin_62 rfl rfl rfl
theorem rX7_begin_63 {d : Nat} {h : Hp} {Q : Option PV → Hp → Prop} {st : List PV}{ls : List (Option PV)}{a : Nat} : WP d mX7_begin 63 ls (.inr (.inr a) :: st) h Q = ((hK h a).1 = 7 ∧ WP d mX7_begin 66 ls (.inr (.inr (hR h a 10)) :: st) h Q) := R_get2 dX7_begin_63 rfl
theorem rX7_begin_66 {d : Nat} {h : Hp} {Q : Option PV → Hp → Prop} {st : List PV}{x0 : Option PV} {t : List (Option PV)} {v : Nat} : WP d mX7_begin 66 (x0 :: some (.inr (.inr v)) :: t) st h Q = WP d mX7_begin 67 (x0 :: some (.inr (.inr v)) :: t) (.inr (.inr v) :: st) h Q := WP_step dX7_begin_66 rfl rfl rfl
theorem rX7_begin_67 {d : Nat} {h : Hp} {Q : Option PV → Hp → Prop} {st : List PV}{ls : List (Option PV)}{a b : Nat} : WP d mX7_begin 67 ls (.inr (.inr b) :: .inr (.inr a) :: st) h Q = ((200 ≤ a ∧ 200 ≤ b) ∧ if a = b then WP d mX7_begin 70 ls st h Q else WP d mX7_begin 110 ls st h Q) := R_acmp_ne dX7_begin_67 (by decide)
theorem rX7_begin_70 {d : Nat} {h : Hp} {Q : Option PV → Hp → Prop} {st : List PV}{t : List (Option PV)} {v : Nat} : WP d mX7_begin 70 (some (.inr (.inr v)) :: t) st h Q = WP d mX7_begin 71 (some (.inr (.inr v)) :: t) (.inr (.inr v) :: st) h Q := WP_step dX7_begin_70 rfl rfl rfl
theorem rX7_begin_71 {d : Nat} {h : Hp} {Q : Option PV → Hp → Prop} {st : List PV}{ls : List (Option PV)}{a : Nat} : WP d mX7_begin 71 ls (.inr (.inr a) :: st) h Q = ((hK h a).1 = 7 ∧ WP d mX7_begin 74 ls (.inr (.inr (hR h a 1)) :: st) h Q) := R_get2 dX7_begin_71 rfl
theorem rX7_begin_74 {d : Nat} {h : Hp} {Q : Option PV → Hp → Prop} {st : List PV}{ls : List (Option PV)}{a : Nat} : WP d mX7_begin 74 ls (.inr (.inr a) :: st) h Q = ((hK h a).1 = 8 ∧ WP d mX7_begin 77 ls (.inr (.inr (hR h a 0)) :: st) h Q) := R_get2 dX7_begin_74 rfl
theorem rX7_begin_77 {d : Nat} {h : Hp} {Q : Option PV → Hp → Prop} {st : List PV}{x0 x1 x2 x3 : Option PV} {t : List (Option PV)} {v : Int} : WP d mX7_begin 77 (x0 :: x1 :: x2 :: x3 :: some (.inl v) :: t) st h Q = WP d mX7_begin 79 (x0 :: x1 :: x2 :: x3 :: some (.inl v) :: t) (.inl v :: st) h Q := WP_step dX7_begin_77 rfl rfl rfl
theorem rX7_begin_79 {d : Nat} {h : Hp} {Q : Option PV → Hp → Prop} {st : List PV}{ls : List (Option PV)}{a : Nat} {z : Int} : WP d mX7_begin 79 ls (.inl z :: .inr (.inr a) :: st) h Q = ((hK h a).1 = 21 ∧ 0 ≤ z ∧ z < (hK h a).2 ∧ WP d mX7_begin 80 ls (.inl (hI h a z.toNat) :: st) h Q) := R_iald dX7_begin_79
theorem rX7_begin_80 {d : Nat} {h : Hp} {Q : Option PV → Hp → Prop} {st : List PV}{x0 x1 : Option PV} {t : List (Option PV)} {v : Nat} : WP d mX7_begin 80 (x0 :: x1 :: some (.inr (.inr v)) :: t) st h Q = WP d mX7_begin 81 (x0 :: x1 :: some (.inr (.inr v)) :: t) (.inr (.inr v) :: st) h Q := WP_step dX7_begin_80 rfl rfl rfl
theorem rX7_begin_81 {d : Nat} {h : Hp} {Q : Option PV → Hp → Prop} {st : List PV}{ls : List (Option PV)}{a : Nat} : WP d mX7_begin 81 ls (.inr (.inr a) :: st) h Q = ((hK h a).1 = 8 ∧ WP d mX7_begin 84 ls (.inr (.inr (hR h a 0)) :: st) h Q) := R_get2 dX7_begin_81 rfl
theorem rX7_begin_84 {d : Nat} {h : Hp} {Q : Option PV → Hp → Prop} {st : List PV}{x0 x1 x2 x3 : Option PV} {t : List (Option PV)} {v : Int} : WP d mX7_begin 84 (x0 :: x1 :: x2 :: x3 :: some (.inl v) :: t) st h Q = WP d mX7_begin 86 (x0 :: x1 :: x2 :: x3 :: some (.inl v) :: t) (.inl v :: st) h Q := WP_step dX7_begin_84 rfl rfl rfl
theorem rX7_begin_86 {d : Nat} {h : Hp} {Q : Option PV → Hp → Prop} {st : List PV}{ls : List (Option PV)}{a : Nat} {z : Int} : WP d mX7_begin 86 ls (.inl z :: .inr (.inr a) :: st) h Q = ((hK h a).1 = 21 ∧ 0 ≤ z ∧ z < (hK h a).2 ∧ WP d mX7_begin 87 ls (.inl (hI h a z.toNat) :: st) h Q) := R_iald dX7_begin_86
theorem rX7_begin_87 {d : Nat} {h : Hp} {Q : Option PV → Hp → Prop} {st : List PV}{ls : List (Option PV)}{a b : Int} : WP d mX7_begin 87 ls (.inl b :: .inl a :: st) h Q = (if a = b then WP d mX7_begin 90 ls st h Q else WP d mX7_begin 110 ls st h Q) := R_icmp_ne dX7_begin_87 (by decide)
theorem rX7_begin_90 {d : Nat} {h : Hp} {Q : Option PV → Hp → Prop} {st : List PV}{t : List (Option PV)} {v : Nat} : WP d mX7_begin 90 (some (.inr (.inr v)) :: t) st h Q = WP d mX7_begin 91 (some (.inr (.inr v)) :: t) (.inr (.inr v) :: st) h Q := WP_step dX7_begin_90 rfl rfl rfl
theorem rX7_begin_91 {d : Nat} {h : Hp} {Q : Option PV → Hp → Prop} {st : List PV}{ls : List (Option PV)}{a : Nat} : WP d mX7_begin 91 ls (.inr (.inr a) :: st) h Q = ((hK h a).1 = 7 ∧ WP d mX7_begin 94 ls (.inr (.inr (hR h a 1)) :: st) h Q) := R_get2 dX7_begin_91 rfl
theorem rX7_begin_94 {d : Nat} {h : Hp} {Q : Option PV → Hp → Prop} {st : List PV}{ls : List (Option PV)}{a : Nat} : WP d mX7_begin 94 ls (.inr (.inr a) :: st) h Q = ((hK h a).1 = 8 ∧ WP d mX7_begin 97 ls (.inr (.inr (hR h a 1)) :: st) h Q) := R_get2 dX7_begin_94 rfl
theorem rX7_begin_97 {d : Nat} {h : Hp} {Q : Option PV → Hp → Prop} {st : List PV}{x0 x1 x2 x3 : Option PV} {t : List (Option PV)} {v : Int} : WP d mX7_begin 97 (x0 :: x1 :: x2 :: x3 :: some (.inl v) :: t) st h Q = WP d mX7_begin 99 (x0 :: x1 :: x2 :: x3 :: some (.inl v) :: t) (.inl v :: st) h Q := WP_step dX7_begin_97 rfl rfl rfl
theorem rX7_begin_99 {d : Nat} {h : Hp} {Q : Option PV → Hp → Prop} {st : List PV}{ls : List (Option PV)}{a : Nat} {z : Int} : WP d mX7_begin 99 ls (.inl z :: .inr (.inr a) :: st) h Q = ((hK h a).1 = 21 ∧ 0 ≤ z ∧ z < (hK h a).2 ∧ WP d mX7_begin 100 ls (.inl (hI h a z.toNat) :: st) h Q) := R_iald dX7_begin_99
theorem rX7_begin_100 {d : Nat} {h : Hp} {Q : Option PV → Hp → Prop} {st : List PV}{x0 x1 : Option PV} {t : List (Option PV)} {v : Nat} : WP d mX7_begin 100 (x0 :: x1 :: some (.inr (.inr v)) :: t) st h Q = WP d mX7_begin 101 (x0 :: x1 :: some (.inr (.inr v)) :: t) (.inr (.inr v) :: st) h Q := WP_step dX7_begin_100 rfl rfl rfl
theorem rX7_begin_101 {d : Nat} {h : Hp} {Q : Option PV → Hp → Prop} {st : List PV}{ls : List (Option PV)}{a : Nat} : WP d mX7_begin 101 ls (.inr (.inr a) :: st) h Q = ((hK h a).1 = 8 ∧ WP d mX7_begin 104 ls (.inr (.inr (hR h a 1)) :: st) h Q) := R_get2 dX7_begin_101 rfl
theorem rX7_begin_104 {d : Nat} {h : Hp} {Q : Option PV → Hp → Prop} {st : List PV}{x0 x1 x2 x3 : Option PV} {t : List (Option PV)} {v : Int} : WP d mX7_begin 104 (x0 :: x1 :: x2 :: x3 :: some (.inl v) :: t) st h Q = WP d mX7_begin 106 (x0 :: x1 :: x2 :: x3 :: some (.inl v) :: t) (.inl v :: st) h Q := WP_step dX7_begin_104 rfl rfl rfl
theorem rX7_begin_106 {d : Nat} {h : Hp} {Q : Option PV → Hp → Prop} {st : List PV}{ls : List (Option PV)}{a : Nat} {z : Int} : WP d mX7_begin 106 ls (.inl z :: .inr (.inr a) :: st) h Q = ((hK h a).1 = 21 ∧ 0 ≤ z ∧ z < (hK h a).2 ∧ WP d mX7_begin 107 ls (.inl (hI h a z.toNat) :: st) h Q) := R_iald dX7_begin_106
theorem rX7_begin_107 {d : Nat} {h : Hp} {Q : Option PV → Hp → Prop} {st : List PV}{ls : List (Option PV)}{a b : Int} : WP d mX7_begin 107 ls (.inl b :: .inl a :: st) h Q = (if a = b then WP d mX7_begin 118 ls st h Q else WP d mX7_begin 110 ls st h Q) := R_icmp_eq dX7_begin_107 (by decide)
theorem rX7_begin_110 {d : Nat} {h : Hp} {Q : Option PV → Hp → Prop} {st : List PV}{t : List (Option PV)} {v : Nat} : WP d mX7_begin 110 (some (.inr (.inr v)) :: t) st h Q = WP d mX7_begin 111 (some (.inr (.inr v)) :: t) (.inr (.inr v) :: st) h Q := WP_step dX7_begin_110 rfl rfl rfl
theorem rX7_begin_111 {d : Nat} {h : Hp} {Q : Option PV → Hp → Prop} {st : List PV}{x0 x1 x2 x3 : Option PV} {t : List (Option PV)} {v : Int} : WP d mX7_begin 111 (x0 :: x1 :: x2 :: x3 :: some (.inl v) :: t) st h Q = WP d mX7_begin 113 (x0 :: x1 :: x2 :: x3 :: some (.inl v) :: t) (.inl v :: st) h Q := WP_step dX7_begin_111 rfl rfl rfl
theorem rX7_begin_113 {d : Nat} {h : Hp} {Q : Option PV → Hp → Prop} {ls : List (Option PV)}{v0 : Nat} {v1 : Int} : WP (d + 1) mX7_begin 113 ls (.inl v1 :: .inr (.inr v0) :: []) h Q = ((hK h v0).1 = 7 ∧ WP d mX7_forgetGoer 0 [some (.inr (.inr v0)), some (.inl v1)] [] h (fun r h' => WP (d + 1) mX7_begin 116 ls (psh r []) h' Q)) := R_callV (st := .inl v1 :: .inr (.inr v0) :: []) (M := mX7_begin) (pc := 113) (kd := 0) (n := 2) (M' := mX7_forgetGoer) (as := [.inl v1, .inr (.inr v0)]) (rest := []) (en := [some (.inr (.inr v0)), some (.inl v1)]) dX7_begin_113 rfl (Nat.le_of_ble_eq_true rfl) (Nat.le_of_ble_eq_true rfl) rfl rfl (Nat.le_of_ble_eq_true rfl) rfl rfl rfl
theorem rX7_begin_116 {d : Nat} {h : Hp} {Q : Option PV → Hp → Prop} {st : List PV}{ls : List (Option PV)} : WP d mX7_begin 116 ls st h Q = WP d mX7_begin 117 ls (.inl (0) :: st) h Q := WP_step dX7_begin_116 rfl rfl rfl
theorem rX7_begin_117 {d : Nat} {h : Hp} {Q : Option PV → Hp → Prop} {st : List PV}{x0 x1 x2 x3 x4 : Option PV} {v : Int} : WP d mX7_begin 117 [x0, x1, x2, x3, x4] (.inl v :: st) h Q = WP d mX7_begin 118 [x0, x1, x2, some (.inl v), x4] st h Q := WP_step dX7_begin_117 rfl rfl rfl
theorem rX7_begin_118 {d : Nat} {h : Hp} {Q : Option PV → Hp → Prop} {st : List PV}{x0 x1 x2 x3 : Option PV} {t : List (Option PV)} {v : Int} : WP d mX7_begin 118 (x0 :: x1 :: x2 :: x3 :: some (.inl v) :: t) st h Q = WP d mX7_begin 121 (x0 :: x1 :: x2 :: x3 :: some (.inl (w32 (v + 1))) :: t) st h Q := WP_step dX7_begin_118 rfl rfl rfl
theorem rX7_begin_121 {d : Nat} {h : Hp} {Q : Option PV → Hp → Prop} {st : List PV}{ls : List (Option PV)} : WP d mX7_begin 121 ls st h Q = WP d mX7_begin 53 ls st h Q := R_goto dX7_begin_121 (by decide)
theorem rX7_begin_124 {d : Nat} {h : Hp} {Q : Option PV → Hp → Prop} {st : List PV}{x0 x1 x2 : Option PV} {t : List (Option PV)} {v : Int} : WP d mX7_begin 124 (x0 :: x1 :: x2 :: some (.inl v) :: t) st h Q = WP d mX7_begin 125 (x0 :: x1 :: x2 :: some (.inl v) :: t) (.inl v :: st) h Q := WP_step dX7_begin_124 rfl rfl rfl
theorem rX7_begin_125 {d : Nat} {h : Hp} {Q : Option PV → Hp → Prop} {st : List PV}{ls : List (Option PV)}{a : Int} : WP d mX7_begin 125 ls (.inl a :: st) h Q = (if a = 0 then WP d mX7_begin 128 ls st h Q else WP d mX7_begin 141 ls st h Q) := R_if_ne dX7_begin_125 (by decide)
theorem rX7_begin_128 {d : Nat} {h : Hp} {Q : Option PV → Hp → Prop} {st : List PV}{t : List (Option PV)} {v : Nat} : WP d mX7_begin 128 (some (.inr (.inr v)) :: t) st h Q = WP d mX7_begin 129 (some (.inr (.inr v)) :: t) (.inr (.inr v) :: st) h Q := WP_step dX7_begin_128 rfl rfl rfl
theorem rX7_begin_129 {d : Nat} {h : Hp} {Q : Option PV → Hp → Prop} {st : List PV}{ls : List (Option PV)} : WP d mX7_begin 129 ls st h Q = WP d mX7_begin 130 ls (.inl (-1) :: st) h Q := WP_step dX7_begin_129 rfl rfl rfl
theorem rX7_begin_130 {d : Nat} {h : Hp} {Q : Option PV → Hp → Prop} {st : List PV}{ls : List (Option PV)}{a : Nat} {v : Int} : WP d mX7_begin 130 ls (.inl v :: .inr (.inr a) :: st) h Q = ((hK h a).1 = 7 ∧ 200 ≤ a ∧ WP d mX7_begin 133 ls st (wI h a 11 v) Q) := R_put0 dX7_begin_130 rfl
theorem rX7_begin_133 {d : Nat} {h : Hp} {Q : Option PV → Hp → Prop} {st : List PV}{t : List (Option PV)} {v : Nat} : WP d mX7_begin 133 (some (.inr (.inr v)) :: t) st h Q = WP d mX7_begin 134 (some (.inr (.inr v)) :: t) (.inr (.inr v) :: st) h Q := WP_step dX7_begin_133 rfl rfl rfl
theorem rX7_begin_134 {d : Nat} {h : Hp} {Q : Option PV → Hp → Prop} {st : List PV}{ls : List (Option PV)}{a : Nat} : WP d mX7_begin 134 ls (.inr (.inr a) :: st) h Q = ((hK h a).1 = 7 ∧ WP d mX7_begin 137 ls (.inr (.inr (hR h a 9)) :: st) h Q) := R_get2 dX7_begin_134 rfl
theorem rX7_begin_137 {d : Nat} {h : Hp} {Q : Option PV → Hp → Prop} {st : List PV}{ls : List (Option PV)} : WP d mX7_begin 137 ls st h Q = WP d mX7_begin 138 ls (.inl (-1) :: st) h Q := WP_step dX7_begin_137 rfl rfl rfl
theorem rX7_begin_138 {d : Nat} {h : Hp} {Q : Option PV → Hp → Prop} {ls : List (Option PV)}{v0 : Nat} {v1 : Int} : WP (d + 1) mX7_begin 138 ls (.inl v1 :: .inr (.inr v0) :: []) h Q = WP d mJ7_fill_53178 0 [some (.inr (.inr v0)), some (.inl v1), none, none] [] h (fun r h' => WP (d + 1) mX7_begin 141 ls (psh r []) h' Q) := R_callS (st := .inl v1 :: .inr (.inr v0) :: []) (M := mX7_begin) (pc := 138) (kd := 4) (n := 2) (M' := mJ7_fill_53178) (as := [.inl v1, .inr (.inr v0)]) (rest := []) (en := [some (.inr (.inr v0)), some (.inl v1), none, none]) dX7_begin_138 rfl (Or.inl rfl) (Nat.le_of_ble_eq_true rfl) rfl (Nat.le_of_ble_eq_true rfl) rfl rfl rfl
theorem rX7_begin_141 {d : Nat} {h : Hp} {Q : Option PV → Hp → Prop} {st : List PV}{t : List (Option PV)} {v : Nat} : WP d mX7_begin 141 (some (.inr (.inr v)) :: t) st h Q = WP d mX7_begin 142 (some (.inr (.inr v)) :: t) (.inr (.inr v) :: st) h Q := WP_step dX7_begin_141 rfl rfl rfl
theorem rX7_begin_142 {d : Nat} {h : Hp} {Q : Option PV → Hp → Prop} {st : List PV}{x0 : Option PV} {t : List (Option PV)} {v : Nat} : WP d mX7_begin 142 (x0 :: some (.inr (.inr v)) :: t) st h Q = WP d mX7_begin 143 (x0 :: some (.inr (.inr v)) :: t) (.inr (.inr v) :: st) h Q := WP_step dX7_begin_142 rfl rfl rfl
theorem rX7_begin_143 {d : Nat} {h : Hp} {Q : Option PV → Hp → Prop} {st : List PV}{ls : List (Option PV)}{a : Nat} {v : Nat} : WP d mX7_begin 143 ls (.inr (.inr v) :: .inr (.inr a) :: st) h Q = ((hK h a).1 = 7 ∧ 200 ≤ a ∧ WP d mX7_begin 146 ls st (wR h a 10 v) Q) := R_put2 dX7_begin_143 rfl
theorem rX7_begin_146 {d : Nat} {h : Hp} {Q : Option PV → Hp → Prop} {st : List PV}{t : List (Option PV)} {v : Nat} : WP d mX7_begin 146 (some (.inr (.inr v)) :: t) st h Q = WP d mX7_begin 147 (some (.inr (.inr v)) :: t) (.inr (.inr v) :: st) h Q := WP_step dX7_begin_146 rfl rfl rfl
theorem rX7_begin_147 {d : Nat} {h : Hp} {Q : Option PV → Hp → Prop} {st : List PV}{ls : List (Option PV)}{a : Nat} : WP d mX7_begin 147 ls (.inr (.inr a) :: st) h Q = ((hK h a).1 = 7 ∧ WP d mX7_begin 150 ls (.inr (.inr (hR h a 1)) :: st) h Q) := R_get2 dX7_begin_147 rfl
theorem rX7_begin_150 {d : Nat} {h : Hp} {Q : Option PV → Hp → Prop} {st : List PV}{x0 x1 : Option PV} {t : List (Option PV)} {v : Nat} : WP d mX7_begin 150 (x0 :: x1 :: some (.inr (.inr v)) :: t) st h Q = WP d mX7_begin 151 (x0 :: x1 :: some (.inr (.inr v)) :: t) (.inr (.inr v) :: st) h Q := WP_step dX7_begin_150 rfl rfl rfl
theorem rX7_begin_151 {d : Nat} {h : Hp} {Q : Option PV → Hp → Prop} {ls : List (Option PV)}{v0 : Nat} {v1 : Nat} : WP (d + 1) mX7_begin 151 ls (.inr (.inr v1) :: .inr (.inr v0) :: []) h Q = ((hK h v0).1 = 8 ∧ WP d mX8_become 0 [some (.inr (.inr v0)), some (.inr (.inr v1))] [] h (fun r h' => WP (d + 1) mX7_begin 154 ls (psh r []) h' Q)) := R_callV (st := .inr (.inr v1) :: .inr (.inr v0) :: []) (M := mX7_begin) (pc := 151) (kd := 0) (n := 2) (M' := mX8_become) (as := [.inr (.inr v1), .inr (.inr v0)]) (rest := []) (en := [some (.inr (.inr v0)), some (.inr (.inr v1))]) dX7_begin_151 rfl (Nat.le_of_ble_eq_true rfl) (Nat.le_of_ble_eq_true rfl) rfl rfl (Nat.le_of_ble_eq_true rfl) rfl rfl rfl
theorem rX7_begin_154 {d : Nat} {h : Hp} {Q : Option PV → Hp → Prop} {ls : List (Option PV)} : WP d mX7_begin 154 ls [] h Q = Q none h := R_vret dX7_begin_154 rfl
theorem dX7_forgetGoer_0 : decode prog_9_method_3_code 0 = .ok (.aload_n 0, 1) := by decide +kernel
theorem dX7_forgetGoer_1 : decode prog_9_method_3_code 1 = .ok (.getfield 23, 3) := by decide +kernel
theorem dX7_forgetGoer_4 : decode prog_9_method_3_code 4 = .ok (.iload_n 1, 1) := by decide +kernel
theorem dX7_forgetGoer_5 : decode prog_9_method_3_code 5 = .ok (.dup2, 1) := by decide +kernel
theorem dX7_forgetGoer_6 : decode prog_9_method_3_code 6 = .ok (.iaload, 1) := by decide +kernel
theorem dX7_forgetGoer_7 : decode prog_9_method_3_code 7 = .ok (.iconst 1, 1) := by decide +kernel
theorem dX7_forgetGoer_8 : decode prog_9_method_3_code 8 = .ok (.iadd, 1) := by decide +kernel
theorem dX7_forgetGoer_9 : decode prog_9_method_3_code 9 = .ok (.iastore, 1) := by decide +kernel
theorem dX7_forgetGoer_10 : decode prog_9_method_3_code 10 = .ok (.aload_n 0, 1) := by decide +kernel
theorem dX7_forgetGoer_11 : decode prog_9_method_3_code 11 = .ok (.getfield 23, 3) := by decide +kernel
theorem dX7_forgetGoer_14 : decode prog_9_method_3_code 14 = .ok (.iload_n 1, 1) := by decide +kernel
theorem dX7_forgetGoer_15 : decode prog_9_method_3_code 15 = .ok (.iaload, 1) := by decide +kernel
theorem dX7_forgetGoer_16 : decode prog_9_method_3_code 16 = .ok (.ldc 85, 2) := by decide +kernel
theorem dX7_forgetGoer_18 : decode prog_9_method_3_code 18 = .ok (.if_icmp .le 18, 3) := by decide +kernel
theorem dX7_forgetGoer_21 : decode prog_9_method_3_code 21 = .ok (.aload_n 0, 1) := by decide +kernel
theorem dX7_forgetGoer_22 : decode prog_9_method_3_code 22 = .ok (.getfield 19, 3) := by decide +kernel
theorem dX7_forgetGoer_25 : decode prog_9_method_3_code 25 = .ok (.iconst 0, 1) := by decide +kernel
theorem dX7_forgetGoer_26 : decode prog_9_method_3_code 26 = .ok (.invokestatic 56, 3) := by decide +kernel
theorem dX7_forgetGoer_29 : decode prog_9_method_3_code 29 = .ok (.aload_n 0, 1) := by decide +kernel
theorem dX7_forgetGoer_30 : decode prog_9_method_3_code 30 = .ok (.getfield 23, 3) := by decide +kernel
theorem dX7_forgetGoer_33 : decode prog_9_method_3_code 33 = .ok (.iload_n 1, 1) := by decide +kernel
theorem dX7_forgetGoer_34 : decode prog_9_method_3_code 34 = .ok (.iconst 1, 1) := by decide +kernel
theorem dX7_forgetGoer_35 : decode prog_9_method_3_code 35 = .ok (.iastore, 1) := by decide +kernel
theorem dX7_forgetGoer_36 : decode prog_9_method_3_code 36 = .ok (.return_, 1) := by decide +kernel
theorem rX7_forgetGoer_0 {d : Nat} {h : Hp} {Q : Option PV → Hp → Prop} {st : List PV}{t : List (Option PV)} {v : Nat} : WP d mX7_forgetGoer 0 (some (.inr (.inr v)) :: t) st h Q = WP d mX7_forgetGoer 1 (some (.inr (.inr v)) :: t) (.inr (.inr v) :: st) h Q := WP_step dX7_forgetGoer_0 rfl rfl rfl
theorem rX7_forgetGoer_1 {d : Nat} {h : Hp} {Q : Option PV → Hp → Prop} {st : List PV}{ls : List (Option PV)}{a : Nat} : WP d mX7_forgetGoer 1 ls (.inr (.inr a) :: st) h Q = ((hK h a).1 = 7 ∧ WP d mX7_forgetGoer 4 ls (.inr (.inr (hR h a 3)) :: st) h Q) := R_get2 dX7_forgetGoer_1 rfl
theorem rX7_forgetGoer_4 {d : Nat} {h : Hp} {Q : Option PV → Hp → Prop} {st : List PV}{x0 : Option PV} {t : List (Option PV)} {v : Int} : WP d mX7_forgetGoer 4 (x0 :: some (.inl v) :: t) st h Q = WP d mX7_forgetGoer 5 (x0 :: some (.inl v) :: t) (.inl v :: st) h Q := WP_step dX7_forgetGoer_4 rfl rfl rfl
theorem rX7_forgetGoer_5 {d : Nat} {h : Hp} {Q : Option PV → Hp → Prop} {st : List PV}{ls : List (Option PV)}{b : Int} {a : Nat} : WP d mX7_forgetGoer 5 ls (.inl b :: .inr (.inr a) :: st) h Q = WP d mX7_forgetGoer 6 ls (.inl b :: .inr (.inr a) :: .inl b :: .inr (.inr a) :: st) h Q := WP_step dX7_forgetGoer_5 rfl rfl rfl
theorem rX7_forgetGoer_6 {d : Nat} {h : Hp} {Q : Option PV → Hp → Prop} {st : List PV}{ls : List (Option PV)}{a : Nat} {z : Int} : WP d mX7_forgetGoer 6 ls (.inl z :: .inr (.inr a) :: st) h Q = ((hK h a).1 = 21 ∧ 0 ≤ z ∧ z < (hK h a).2 ∧ WP d mX7_forgetGoer 7 ls (.inl (hI h a z.toNat) :: st) h Q) := R_iald dX7_forgetGoer_6
theorem rX7_forgetGoer_7 {d : Nat} {h : Hp} {Q : Option PV → Hp → Prop} {st : List PV}{ls : List (Option PV)} : WP d mX7_forgetGoer 7 ls st h Q = WP d mX7_forgetGoer 8 ls (.inl (1) :: st) h Q := WP_step dX7_forgetGoer_7 rfl rfl rfl
theorem rX7_forgetGoer_8 {d : Nat} {h : Hp} {Q : Option PV → Hp → Prop} {st : List PV}{ls : List (Option PV)}{a b : Int} : WP d mX7_forgetGoer 8 ls (.inl b :: .inl a :: st) h Q = WP d mX7_forgetGoer 9 ls (.inl (w32 (a + b)) :: st) h Q := WP_step dX7_forgetGoer_8 rfl rfl rfl
theorem rX7_forgetGoer_9 {d : Nat} {h : Hp} {Q : Option PV → Hp → Prop} {st : List PV}{ls : List (Option PV)}{a : Nat} {z v : Int} : WP d mX7_forgetGoer 9 ls (.inl v :: .inl z :: .inr (.inr a) :: st) h Q = (200 ≤ a ∧ (hK h a).1 = 21 ∧ 0 ≤ z ∧ z < (hK h a).2 ∧ WP d mX7_forgetGoer 10 ls st (wI h a z.toNat v) Q) := R_iast dX7_forgetGoer_9
theorem rX7_forgetGoer_10 {d : Nat} {h : Hp} {Q : Option PV → Hp → Prop} {st : List PV}{t : List (Option PV)} {v : Nat} : WP d mX7_forgetGoer 10 (some (.inr (.inr v)) :: t) st h Q = WP d mX7_forgetGoer 11 (some (.inr (.inr v)) :: t) (.inr (.inr v) :: st) h Q := WP_step dX7_forgetGoer_10 rfl rfl rfl
theorem rX7_forgetGoer_11 {d : Nat} {h : Hp} {Q : Option PV → Hp → Prop} {st : List PV}{ls : List (Option PV)}{a : Nat} : WP d mX7_forgetGoer 11 ls (.inr (.inr a) :: st) h Q = ((hK h a).1 = 7 ∧ WP d mX7_forgetGoer 14 ls (.inr (.inr (hR h a 3)) :: st) h Q) := R_get2 dX7_forgetGoer_11 rfl
theorem rX7_forgetGoer_14 {d : Nat} {h : Hp} {Q : Option PV → Hp → Prop} {st : List PV}{x0 : Option PV} {t : List (Option PV)} {v : Int} : WP d mX7_forgetGoer 14 (x0 :: some (.inl v) :: t) st h Q = WP d mX7_forgetGoer 15 (x0 :: some (.inl v) :: t) (.inl v :: st) h Q := WP_step dX7_forgetGoer_14 rfl rfl rfl
theorem rX7_forgetGoer_15 {d : Nat} {h : Hp} {Q : Option PV → Hp → Prop} {st : List PV}{ls : List (Option PV)}{a : Nat} {z : Int} : WP d mX7_forgetGoer 15 ls (.inl z :: .inr (.inr a) :: st) h Q = ((hK h a).1 = 21 ∧ 0 ≤ z ∧ z < (hK h a).2 ∧ WP d mX7_forgetGoer 16 ls (.inl (hI h a z.toNat) :: st) h Q) := R_iald dX7_forgetGoer_15
theorem rX7_forgetGoer_16 {d : Nat} {h : Hp} {Q : Option PV → Hp → Prop} {st : List PV}{ls : List (Option PV)} : WP d mX7_forgetGoer 16 ls st h Q = WP d mX7_forgetGoer 18 ls (.inl (100000) :: st) h Q := WP_step dX7_forgetGoer_16 rfl rfl rfl
theorem rX7_forgetGoer_18 {d : Nat} {h : Hp} {Q : Option PV → Hp → Prop} {st : List PV}{ls : List (Option PV)}{a b : Int} : WP d mX7_forgetGoer 18 ls (.inl b :: .inl a :: st) h Q = (if b < a then WP d mX7_forgetGoer 21 ls st h Q else WP d mX7_forgetGoer 36 ls st h Q) := R_icmp_le dX7_forgetGoer_18 (by decide)
theorem rX7_forgetGoer_21 {d : Nat} {h : Hp} {Q : Option PV → Hp → Prop} {st : List PV}{t : List (Option PV)} {v : Nat} : WP d mX7_forgetGoer 21 (some (.inr (.inr v)) :: t) st h Q = WP d mX7_forgetGoer 22 (some (.inr (.inr v)) :: t) (.inr (.inr v) :: st) h Q := WP_step dX7_forgetGoer_21 rfl rfl rfl
theorem rX7_forgetGoer_22 {d : Nat} {h : Hp} {Q : Option PV → Hp → Prop} {st : List PV}{ls : List (Option PV)}{a : Nat} : WP d mX7_forgetGoer 22 ls (.inr (.inr a) :: st) h Q = ((hK h a).1 = 7 ∧ WP d mX7_forgetGoer 25 ls (.inr (.inr (hR h a 2)) :: st) h Q) := R_get2 dX7_forgetGoer_22 rfl
theorem rX7_forgetGoer_25 {d : Nat} {h : Hp} {Q : Option PV → Hp → Prop} {st : List PV}{ls : List (Option PV)} : WP d mX7_forgetGoer 25 ls st h Q = WP d mX7_forgetGoer 26 ls (.inl (0) :: st) h Q := WP_step dX7_forgetGoer_25 rfl rfl rfl
theorem rX7_forgetGoer_26 {d : Nat} {h : Hp} {Q : Option PV → Hp → Prop} {ls : List (Option PV)}{v0 : Nat} {v1 : Int} : WP (d + 1) mX7_forgetGoer 26 ls (.inl v1 :: .inr (.inr v0) :: []) h Q = WP d mJ7_fill_53178 0 [some (.inr (.inr v0)), some (.inl v1), none, none] [] h (fun r h' => WP (d + 1) mX7_forgetGoer 29 ls (psh r []) h' Q) := R_callS (st := .inl v1 :: .inr (.inr v0) :: []) (M := mX7_forgetGoer) (pc := 26) (kd := 4) (n := 2) (M' := mJ7_fill_53178) (as := [.inl v1, .inr (.inr v0)]) (rest := []) (en := [some (.inr (.inr v0)), some (.inl v1), none, none]) dX7_forgetGoer_26 rfl (Or.inl rfl) (Nat.le_of_ble_eq_true rfl) rfl (Nat.le_of_ble_eq_true rfl) rfl rfl rfl
theorem rX7_forgetGoer_29 {d : Nat} {h : Hp} {Q : Option PV → Hp → Prop} {st : List PV}{t : List (Option PV)} {v : Nat} : WP d mX7_forgetGoer 29 (some (.inr (.inr v)) :: t) st h Q = WP d mX7_forgetGoer 30 (some (.inr (.inr v)) :: t) (.inr (.inr v) :: st) h Q := WP_step dX7_forgetGoer_29 rfl rfl rfl
theorem rX7_forgetGoer_30 {d : Nat} {h : Hp} {Q : Option PV → Hp → Prop} {st : List PV}{ls : List (Option PV)}{a : Nat} : WP d mX7_forgetGoer 30 ls (.inr (.inr a) :: st) h Q = ((hK h a).1 = 7 ∧ WP d mX7_forgetGoer 33 ls (.inr (.inr (hR h a 3)) :: st) h Q) := R_get2 dX7_forgetGoer_30 rfl
theorem rX7_forgetGoer_33 {d : Nat} {h : Hp} {Q : Option PV → Hp → Prop} {st : List PV}{x0 : Option PV} {t : List (Option PV)} {v : Int} : WP d mX7_forgetGoer 33 (x0 :: some (.inl v) :: t) st h Q = WP d mX7_forgetGoer 34 (x0 :: some (.inl v) :: t) (.inl v :: st) h Q := WP_step dX7_forgetGoer_33 rfl rfl rfl
theorem rX7_forgetGoer_34 {d : Nat} {h : Hp} {Q : Option PV → Hp → Prop} {st : List PV}{ls : List (Option PV)} : WP d mX7_forgetGoer 34 ls st h Q = WP d mX7_forgetGoer 35 ls (.inl (1) :: st) h Q := WP_step dX7_forgetGoer_34 rfl rfl rfl
theorem rX7_forgetGoer_35 {d : Nat} {h : Hp} {Q : Option PV → Hp → Prop} {st : List PV}{ls : List (Option PV)}{a : Nat} {z v : Int} : WP d mX7_forgetGoer 35 ls (.inl v :: .inl z :: .inr (.inr a) :: st) h Q = (200 ≤ a ∧ (hK h a).1 = 21 ∧ 0 ≤ z ∧ z < (hK h a).2 ∧ WP d mX7_forgetGoer 36 ls st (wI h a z.toNat v) Q) := R_iast dX7_forgetGoer_35
theorem rX7_forgetGoer_36 {d : Nat} {h : Hp} {Q : Option PV → Hp → Prop} {ls : List (Option PV)} : WP d mX7_forgetGoer 36 ls [] h Q = Q none h := R_vret dX7_forgetGoer_36 rfl
theorem dX7_explore_0 : decode prog_9_method_4_code 0 = .ok (.aload_n 0, 1) := by decide +kernel
theorem dX7_explore_1 : decode prog_9_method_4_code 1 = .ok (.getfield 44, 3) := by decide +kernel
theorem dX7_explore_4 : decode prog_9_method_4_code 4 = .ok (.iload_n 1, 1) := by decide +kernel
theorem dX7_explore_5 : decode prog_9_method_4_code 5 = .ok (.if_icmp .ne 4, 3) := by decide +kernel
theorem dX7_explore_8 : decode prog_9_method_4_code 8 = .ok (.return_, 1) := by decide +kernel
theorem dX7_explore_9 : decode prog_9_method_4_code 9 = .ok (.aload_n 0, 1) := by decide +kernel
theorem dX7_explore_10 : decode prog_9_method_4_code 10 = .ok (.iload_n 1, 1) := by decide +kernel
theorem dX7_explore_11 : decode prog_9_method_4_code 11 = .ok (.putfield 44, 3) := by decide +kernel
theorem dX7_explore_14 : decode prog_9_method_4_code 14 = .ok (.aload_n 0, 1) := by decide +kernel
theorem dX7_explore_15 : decode prog_9_method_4_code 15 = .ok (.iconst 0, 1) := by decide +kernel
theorem dX7_explore_16 : decode prog_9_method_4_code 16 = .ok (.putfield 86, 3) := by decide +kernel
theorem dX7_explore_19 : decode prog_9_method_4_code 19 = .ok (.aload_n 0, 1) := by decide +kernel
theorem dX7_explore_20 : decode prog_9_method_4_code 20 = .ok (.aload_n 0, 1) := by decide +kernel
theorem dX7_explore_21 : decode prog_9_method_4_code 21 = .ok (.getfield 14, 3) := by decide +kernel
theorem dX7_explore_24 : decode prog_9_method_4_code 24 = .ok (.getfield 62, 3) := by decide +kernel
theorem dX7_explore_27 : decode prog_9_method_4_code 27 = .ok (.aload_n 0, 1) := by decide +kernel
theorem dX7_explore_28 : decode prog_9_method_4_code 28 = .ok (.getfield 14, 3) := by decide +kernel
theorem dX7_explore_31 : decode prog_9_method_4_code 31 = .ok (.getfield 65, 3) := by decide +kernel
theorem dX7_explore_34 : decode prog_9_method_4_code 34 = .ok (.invokestatic 89, 3) := by decide +kernel
theorem dX7_explore_37 : decode prog_9_method_4_code 37 = .ok (.iconst 0, 1) := by decide +kernel
theorem dX7_explore_38 : decode prog_9_method_4_code 38 = .ok (.iconst (-1), 1) := by decide +kernel
theorem dX7_explore_39 : decode prog_9_method_4_code 39 = .ok (.invokevirtual 93, 3) := by decide +kernel
theorem dX7_explore_42 : decode prog_9_method_4_code 42 = .ok (.iconst 0, 1) := by decide +kernel
theorem dX7_explore_43 : decode prog_9_method_4_code 43 = .ok (.istore_n 2, 1) := by decide +kernel
theorem dX7_explore_44 : decode prog_9_method_4_code 44 = .ok (.iload_n 2, 1) := by decide +kernel
theorem dX7_explore_45 : decode prog_9_method_4_code 45 = .ok (.aload_n 0, 1) := by decide +kernel
theorem dX7_explore_46 : decode prog_9_method_4_code 46 = .ok (.getfield 86, 3) := by decide +kernel
theorem dX7_explore_49 : decode prog_9_method_4_code 49 = .ok (.if_icmp .ge 60, 3) := by decide +kernel
theorem dX7_explore_52 : decode prog_9_method_4_code 52 = .ok (.iload_n 2, 1) := by decide +kernel
theorem dX7_explore_53 : decode prog_9_method_4_code 53 = .ok (.sipush 1600, 3) := by decide +kernel
theorem dX7_explore_56 : decode prog_9_method_4_code 56 = .ok (.if_icmp .ge 53, 3) := by decide +kernel
theorem dX7_explore_59 : decode prog_9_method_4_code 59 = .ok (.iconst 0, 1) := by decide +kernel
theorem dX7_explore_60 : decode prog_9_method_4_code 60 = .ok (.istore_n 3, 1) := by decide +kernel
theorem dX7_explore_61 : decode prog_9_method_4_code 61 = .ok (.iload_n 3, 1) := by decide +kernel
theorem dX7_explore_62 : decode prog_9_method_4_code 62 = .ok (.aload_n 0, 1) := by decide +kernel
theorem dX7_explore_63 : decode prog_9_method_4_code 63 = .ok (.getfield 52, 3) := by decide +kernel
theorem dX7_explore_66 : decode prog_9_method_4_code 66 = .ok (.getfield 68, 3) := by decide +kernel
theorem dX7_explore_69 : decode prog_9_method_4_code 69 = .ok (.if_icmp .ge 34, 3) := by decide +kernel
theorem dX7_explore_72 : decode prog_9_method_4_code 72 = .ok (.iload_n 1, 1) := by decide +kernel
theorem dX7_explore_73 : decode prog_9_method_4_code 73 = .ok (.iload_n 3, 1) := by decide +kernel
theorem dX7_explore_74 : decode prog_9_method_4_code 74 = .ok (.invokestatic 97, 3) := by decide +kernel
theorem dX7_explore_77 : decode prog_9_method_4_code 77 = .ok (.ifCond .eq 20, 3) := by decide +kernel
theorem dX7_explore_80 : decode prog_9_method_4_code 80 = .ok (.aload_n 0, 1) := by decide +kernel
theorem dX7_explore_81 : decode prog_9_method_4_code 81 = .ok (.aload_n 0, 1) := by decide +kernel
theorem dX7_explore_82 : decode prog_9_method_4_code 82 = .ok (.iload_n 3, 1) := by decide +kernel
theorem dX7_explore_83 : decode prog_9_method_4_code 83 = .ok (.aload_n 0, 1) := by decide +kernel
theorem dX7_explore_84 : decode prog_9_method_4_code 84 = .ok (.getfield 26, 3) := by decide +kernel
theorem dX7_explore_87 : decode prog_9_method_4_code 87 = .ok (.iload_n 2, 1) := by decide +kernel
theorem dX7_explore_88 : decode prog_9_method_4_code 88 = .ok (.iaload, 1) := by decide +kernel
theorem dX7_explore_89 : decode prog_9_method_4_code 89 = .ok (.invokevirtual 101, 3) := by decide +kernel
theorem dX7_explore_92 : decode prog_9_method_4_code 92 = .ok (.iload_n 2, 1) := by decide +kernel
theorem dX7_explore_93 : decode prog_9_method_4_code 93 = .ok (.iload_n 3, 1) := by decide +kernel
theorem dX7_explore_94 : decode prog_9_method_4_code 94 = .ok (.invokevirtual 93, 3) := by decide +kernel
theorem dX7_explore_97 : decode prog_9_method_4_code 97 = .ok (.iinc 3 1, 3) := by decide +kernel
theorem dX7_explore_100 : decode prog_9_method_4_code 100 = .ok (.goto (-39), 3) := by decide +kernel
theorem dX7_explore_103 : decode prog_9_method_4_code 103 = .ok (.iinc 2 1, 3) := by decide +kernel
theorem dX7_explore_106 : decode prog_9_method_4_code 106 = .ok (.goto (-62), 3) := by decide +kernel
theorem dX7_explore_109 : decode prog_9_method_4_code 109 = .ok (.return_, 1) := by decide +kernel
theorem rX7_explore_0 {d : Nat} {h : Hp} {Q : Option PV → Hp → Prop} {st : List PV}{t : List (Option PV)} {v : Nat} : WP d mX7_explore 0 (some (.inr (.inr v)) :: t) st h Q = WP d mX7_explore 1 (some (.inr (.inr v)) :: t) (.inr (.inr v) :: st) h Q := WP_step dX7_explore_0 rfl rfl rfl
theorem rX7_explore_1 {d : Nat} {h : Hp} {Q : Option PV → Hp → Prop} {st : List PV}{ls : List (Option PV)}{a : Nat} : WP d mX7_explore 1 ls (.inr (.inr a) :: st) h Q = ((hK h a).1 = 7 ∧ WP d mX7_explore 4 ls (.inl (hI h a 11) :: st) h Q) := R_get0 dX7_explore_1 rfl
theorem rX7_explore_4 {d : Nat} {h : Hp} {Q : Option PV → Hp → Prop} {st : List PV}{x0 : Option PV} {t : List (Option PV)} {v : Int} : WP d mX7_explore 4 (x0 :: some (.inl v) :: t) st h Q = WP d mX7_explore 5 (x0 :: some (.inl v) :: t) (.inl v :: st) h Q := WP_step dX7_explore_4 rfl rfl rfl
theorem rX7_explore_5 {d : Nat} {h : Hp} {Q : Option PV → Hp → Prop} {st : List PV}{ls : List (Option PV)}{a b : Int} : WP d mX7_explore 5 ls (.inl b :: .inl a :: st) h Q = (if a = b then WP d mX7_explore 8 ls st h Q else WP d mX7_explore 9 ls st h Q) := R_icmp_ne dX7_explore_5 (by decide)
theorem rX7_explore_8 {d : Nat} {h : Hp} {Q : Option PV → Hp → Prop} {ls : List (Option PV)} : WP d mX7_explore 8 ls [] h Q = Q none h := R_vret dX7_explore_8 rfl
theorem rX7_explore_9 {d : Nat} {h : Hp} {Q : Option PV → Hp → Prop} {st : List PV}{t : List (Option PV)} {v : Nat} : WP d mX7_explore 9 (some (.inr (.inr v)) :: t) st h Q = WP d mX7_explore 10 (some (.inr (.inr v)) :: t) (.inr (.inr v) :: st) h Q := WP_step dX7_explore_9 rfl rfl rfl
theorem rX7_explore_10 {d : Nat} {h : Hp} {Q : Option PV → Hp → Prop} {st : List PV}{x0 : Option PV} {t : List (Option PV)} {v : Int} : WP d mX7_explore 10 (x0 :: some (.inl v) :: t) st h Q = WP d mX7_explore 11 (x0 :: some (.inl v) :: t) (.inl v :: st) h Q := WP_step dX7_explore_10 rfl rfl rfl
theorem rX7_explore_11 {d : Nat} {h : Hp} {Q : Option PV → Hp → Prop} {st : List PV}{ls : List (Option PV)}{a : Nat} {v : Int} : WP d mX7_explore 11 ls (.inl v :: .inr (.inr a) :: st) h Q = ((hK h a).1 = 7 ∧ 200 ≤ a ∧ WP d mX7_explore 14 ls st (wI h a 11 v) Q) := R_put0 dX7_explore_11 rfl
theorem rX7_explore_14 {d : Nat} {h : Hp} {Q : Option PV → Hp → Prop} {st : List PV}{t : List (Option PV)} {v : Nat} : WP d mX7_explore 14 (some (.inr (.inr v)) :: t) st h Q = WP d mX7_explore 15 (some (.inr (.inr v)) :: t) (.inr (.inr v) :: st) h Q := WP_step dX7_explore_14 rfl rfl rfl
theorem rX7_explore_15 {d : Nat} {h : Hp} {Q : Option PV → Hp → Prop} {st : List PV}{ls : List (Option PV)} : WP d mX7_explore 15 ls st h Q = WP d mX7_explore 16 ls (.inl (0) :: st) h Q := WP_step dX7_explore_15 rfl rfl rfl
theorem rX7_explore_16 {d : Nat} {h : Hp} {Q : Option PV → Hp → Prop} {st : List PV}{ls : List (Option PV)}{a : Nat} {v : Int} : WP d mX7_explore 16 ls (.inl v :: .inr (.inr a) :: st) h Q = ((hK h a).1 = 7 ∧ 200 ≤ a ∧ WP d mX7_explore 19 ls st (wI h a 12 v) Q) := R_put0 dX7_explore_16 rfl
theorem rX7_explore_19 {d : Nat} {h : Hp} {Q : Option PV → Hp → Prop} {st : List PV}{t : List (Option PV)} {v : Nat} : WP d mX7_explore 19 (some (.inr (.inr v)) :: t) st h Q = WP d mX7_explore 20 (some (.inr (.inr v)) :: t) (.inr (.inr v) :: st) h Q := WP_step dX7_explore_19 rfl rfl rfl
theorem rX7_explore_20 {d : Nat} {h : Hp} {Q : Option PV → Hp → Prop} {st : List PV}{t : List (Option PV)} {v : Nat} : WP d mX7_explore 20 (some (.inr (.inr v)) :: t) st h Q = WP d mX7_explore 21 (some (.inr (.inr v)) :: t) (.inr (.inr v) :: st) h Q := WP_step dX7_explore_20 rfl rfl rfl
theorem rX7_explore_21 {d : Nat} {h : Hp} {Q : Option PV → Hp → Prop} {st : List PV}{ls : List (Option PV)}{a : Nat} : WP d mX7_explore 21 ls (.inr (.inr a) :: st) h Q = ((hK h a).1 = 7 ∧ WP d mX7_explore 24 ls (.inr (.inr (hR h a 1)) :: st) h Q) := R_get2 dX7_explore_21 rfl
theorem rX7_explore_24 {d : Nat} {h : Hp} {Q : Option PV → Hp → Prop} {st : List PV}{ls : List (Option PV)}{a : Nat} : WP d mX7_explore 24 ls (.inr (.inr a) :: st) h Q = ((hK h a).1 = 8 ∧ WP d mX7_explore 27 ls (.inl (hI h a 2) :: st) h Q) := R_get0 dX7_explore_24 rfl
theorem rX7_explore_27 {d : Nat} {h : Hp} {Q : Option PV → Hp → Prop} {st : List PV}{t : List (Option PV)} {v : Nat} : WP d mX7_explore 27 (some (.inr (.inr v)) :: t) st h Q = WP d mX7_explore 28 (some (.inr (.inr v)) :: t) (.inr (.inr v) :: st) h Q := WP_step dX7_explore_27 rfl rfl rfl
theorem rX7_explore_28 {d : Nat} {h : Hp} {Q : Option PV → Hp → Prop} {st : List PV}{ls : List (Option PV)}{a : Nat} : WP d mX7_explore 28 ls (.inr (.inr a) :: st) h Q = ((hK h a).1 = 7 ∧ WP d mX7_explore 31 ls (.inr (.inr (hR h a 1)) :: st) h Q) := R_get2 dX7_explore_28 rfl
theorem rX7_explore_31 {d : Nat} {h : Hp} {Q : Option PV → Hp → Prop} {st : List PV}{ls : List (Option PV)}{a : Nat} : WP d mX7_explore 31 ls (.inr (.inr a) :: st) h Q = ((hK h a).1 = 8 ∧ WP d mX7_explore 34 ls (.inl (hI h a 3) :: st) h Q) := R_get0 dX7_explore_31 rfl
theorem rX7_explore_34 {d : Nat} {h : Hp} {Q : Option PV → Hp → Prop} {ls : List (Option PV)}{r0 : PV}{v0 : Int} {v1 : Int} : WP (d + 1) mX7_explore 34 ls (.inl v1 :: .inl v0 :: [r0]) h Q = WP d mX11_stateOf 0 [some (.inl v0), some (.inl v1)] [] h (fun r h' => WP (d + 1) mX7_explore 37 ls (psh r [r0]) h' Q) := R_callS (st := .inl v1 :: .inl v0 :: [r0]) (M := mX7_explore) (pc := 34) (kd := 5) (n := 2) (M' := mX11_stateOf) (as := [.inl v1, .inl v0]) (rest := [r0]) (en := [some (.inl v0), some (.inl v1)]) dX7_explore_34 rfl (Or.inr rfl) (Nat.le_of_ble_eq_true rfl) rfl (Nat.le_of_ble_eq_true rfl) rfl rfl rfl
theorem rX7_explore_37 {d : Nat} {h : Hp} {Q : Option PV → Hp → Prop} {st : List PV}{ls : List (Option PV)} : WP d mX7_explore 37 ls st h Q = WP d mX7_explore 38 ls (.inl (0) :: st) h Q := WP_step dX7_explore_37 rfl rfl rfl
theorem rX7_explore_38 {d : Nat} {h : Hp} {Q : Option PV → Hp → Prop} {st : List PV}{ls : List (Option PV)} : WP d mX7_explore 38 ls st h Q = WP d mX7_explore 39 ls (.inl (-1) :: st) h Q := WP_step dX7_explore_38 rfl rfl rfl
theorem rX7_explore_39 {d : Nat} {h : Hp} {Q : Option PV → Hp → Prop} {ls : List (Option PV)}{v0 : Nat} {v1 : Int} {v2 : Int} {v3 : Int} : WP (d + 1) mX7_explore 39 ls (.inl v3 :: .inl v2 :: .inl v1 :: .inr (.inr v0) :: []) h Q = ((hK h v0).1 = 7 ∧ WP d mX7_find 0 [some (.inr (.inr v0)), some (.inl v1), some (.inl v2), some (.inl v3), none] [] h (fun r h' => WP (d + 1) mX7_explore 42 ls (psh r []) h' Q)) := R_callV (st := .inl v3 :: .inl v2 :: .inl v1 :: .inr (.inr v0) :: []) (M := mX7_explore) (pc := 39) (kd := 0) (n := 4) (M' := mX7_find) (as := [.inl v3, .inl v2, .inl v1, .inr (.inr v0)]) (rest := []) (en := [some (.inr (.inr v0)), some (.inl v1), some (.inl v2), some (.inl v3), none]) dX7_explore_39 rfl (Nat.le_of_ble_eq_true rfl) (Nat.le_of_ble_eq_true rfl) rfl rfl (Nat.le_of_ble_eq_true rfl) rfl rfl rfl
theorem rX7_explore_42 {d : Nat} {h : Hp} {Q : Option PV → Hp → Prop} {st : List PV}{ls : List (Option PV)} : WP d mX7_explore 42 ls st h Q = WP d mX7_explore 43 ls (.inl (0) :: st) h Q := WP_step dX7_explore_42 rfl rfl rfl
theorem rX7_explore_43 {d : Nat} {h : Hp} {Q : Option PV → Hp → Prop} {st : List PV}{x0 x1 x2 x3 : Option PV} {v : Int} : WP d mX7_explore 43 [x0, x1, x2, x3] (.inl v :: st) h Q = WP d mX7_explore 44 [x0, x1, some (.inl v), x3] st h Q := WP_step dX7_explore_43 rfl rfl rfl
theorem rX7_explore_44 {d : Nat} {h : Hp} {Q : Option PV → Hp → Prop} {st : List PV}{x0 x1 : Option PV} {t : List (Option PV)} {v : Int} : WP d mX7_explore 44 (x0 :: x1 :: some (.inl v) :: t) st h Q = WP d mX7_explore 45 (x0 :: x1 :: some (.inl v) :: t) (.inl v :: st) h Q := WP_step dX7_explore_44 rfl rfl rfl
theorem rX7_explore_45 {d : Nat} {h : Hp} {Q : Option PV → Hp → Prop} {st : List PV}{t : List (Option PV)} {v : Nat} : WP d mX7_explore 45 (some (.inr (.inr v)) :: t) st h Q = WP d mX7_explore 46 (some (.inr (.inr v)) :: t) (.inr (.inr v) :: st) h Q := WP_step dX7_explore_45 rfl rfl rfl
theorem rX7_explore_46 {d : Nat} {h : Hp} {Q : Option PV → Hp → Prop} {st : List PV}{ls : List (Option PV)}{a : Nat} : WP d mX7_explore 46 ls (.inr (.inr a) :: st) h Q = ((hK h a).1 = 7 ∧ WP d mX7_explore 49 ls (.inl (hI h a 12) :: st) h Q) := R_get0 dX7_explore_46 rfl
theorem rX7_explore_49 {d : Nat} {h : Hp} {Q : Option PV → Hp → Prop} {st : List PV}{ls : List (Option PV)}{a b : Int} : WP d mX7_explore 49 ls (.inl b :: .inl a :: st) h Q = (if a < b then WP d mX7_explore 52 ls st h Q else WP d mX7_explore 109 ls st h Q) := R_icmp_ge dX7_explore_49 (by decide)
theorem rX7_explore_52 {d : Nat} {h : Hp} {Q : Option PV → Hp → Prop} {st : List PV}{x0 x1 : Option PV} {t : List (Option PV)} {v : Int} : WP d mX7_explore 52 (x0 :: x1 :: some (.inl v) :: t) st h Q = WP d mX7_explore 53 (x0 :: x1 :: some (.inl v) :: t) (.inl v :: st) h Q := WP_step dX7_explore_52 rfl rfl rfl
theorem rX7_explore_53 {d : Nat} {h : Hp} {Q : Option PV → Hp → Prop} {st : List PV}{ls : List (Option PV)} : WP d mX7_explore 53 ls st h Q = WP d mX7_explore 56 ls (.inl (1600) :: st) h Q := WP_step dX7_explore_53 rfl rfl rfl
theorem rX7_explore_56 {d : Nat} {h : Hp} {Q : Option PV → Hp → Prop} {st : List PV}{ls : List (Option PV)}{a b : Int} : WP d mX7_explore 56 ls (.inl b :: .inl a :: st) h Q = (if a < b then WP d mX7_explore 59 ls st h Q else WP d mX7_explore 109 ls st h Q) := R_icmp_ge dX7_explore_56 (by decide)
theorem rX7_explore_59 {d : Nat} {h : Hp} {Q : Option PV → Hp → Prop} {st : List PV}{ls : List (Option PV)} : WP d mX7_explore 59 ls st h Q = WP d mX7_explore 60 ls (.inl (0) :: st) h Q := WP_step dX7_explore_59 rfl rfl rfl
theorem rX7_explore_60 {d : Nat} {h : Hp} {Q : Option PV → Hp → Prop} {st : List PV}{x0 x1 x2 x3 : Option PV} {v : Int} : WP d mX7_explore 60 [x0, x1, x2, x3] (.inl v :: st) h Q = WP d mX7_explore 61 [x0, x1, x2, some (.inl v)] st h Q := WP_step dX7_explore_60 rfl rfl rfl
theorem rX7_explore_61 {d : Nat} {h : Hp} {Q : Option PV → Hp → Prop} {st : List PV}{x0 x1 x2 : Option PV} {t : List (Option PV)} {v : Int} : WP d mX7_explore 61 (x0 :: x1 :: x2 :: some (.inl v) :: t) st h Q = WP d mX7_explore 62 (x0 :: x1 :: x2 :: some (.inl v) :: t) (.inl v :: st) h Q := WP_step dX7_explore_61 rfl rfl rfl
theorem rX7_explore_62 {d : Nat} {h : Hp} {Q : Option PV → Hp → Prop} {st : List PV}{t : List (Option PV)} {v : Nat} : WP d mX7_explore 62 (some (.inr (.inr v)) :: t) st h Q = WP d mX7_explore 63 (some (.inr (.inr v)) :: t) (.inr (.inr v) :: st) h Q := WP_step dX7_explore_62 rfl rfl rfl
theorem rX7_explore_63 {d : Nat} {h : Hp} {Q : Option PV → Hp → Prop} {st : List PV}{ls : List (Option PV)}{a : Nat} : WP d mX7_explore 63 ls (.inr (.inr a) :: st) h Q = ((hK h a).1 = 7 ∧ WP d mX7_explore 66 ls (.inr (.inr (hR h a 10)) :: st) h Q) := R_get2 dX7_explore_63 rfl
theorem rX7_explore_66 {d : Nat} {h : Hp} {Q : Option PV → Hp → Prop} {st : List PV}{ls : List (Option PV)}{a : Nat} : WP d mX7_explore 66 ls (.inr (.inr a) :: st) h Q = ((hK h a).1 = 5 ∧ WP d mX7_explore 69 ls (.inl (hI h a 11) :: st) h Q) := R_get0 dX7_explore_66 rfl
theorem rX7_explore_69 {d : Nat} {h : Hp} {Q : Option PV → Hp → Prop} {st : List PV}{ls : List (Option PV)}{a b : Int} : WP d mX7_explore 69 ls (.inl b :: .inl a :: st) h Q = (if a < b then WP d mX7_explore 72 ls st h Q else WP d mX7_explore 103 ls st h Q) := R_icmp_ge dX7_explore_69 (by decide)
theorem rX7_explore_72 {d : Nat} {h : Hp} {Q : Option PV → Hp → Prop} {st : List PV}{x0 : Option PV} {t : List (Option PV)} {v : Int} : WP d mX7_explore 72 (x0 :: some (.inl v) :: t) st h Q = WP d mX7_explore 73 (x0 :: some (.inl v) :: t) (.inl v :: st) h Q := WP_step dX7_explore_72 rfl rfl rfl
theorem rX7_explore_73 {d : Nat} {h : Hp} {Q : Option PV → Hp → Prop} {st : List PV}{x0 x1 x2 : Option PV} {t : List (Option PV)} {v : Int} : WP d mX7_explore 73 (x0 :: x1 :: x2 :: some (.inl v) :: t) st h Q = WP d mX7_explore 74 (x0 :: x1 :: x2 :: some (.inl v) :: t) (.inl v :: st) h Q := WP_step dX7_explore_73 rfl rfl rfl
theorem rX7_explore_74 {d : Nat} {h : Hp} {Q : Option PV → Hp → Prop} {ls : List (Option PV)}{v0 : Int} {v1 : Int} : WP (d + 1) mX7_explore 74 ls (.inl v1 :: .inl v0 :: []) h Q = WP d mX11_has 0 [some (.inl v0), some (.inl v1)] [] h (fun r h' => WP (d + 1) mX7_explore 77 ls (psh r []) h' Q) := R_callS (st := .inl v1 :: .inl v0 :: []) (M := mX7_explore) (pc := 74) (kd := 5) (n := 2) (M' := mX11_has) (as := [.inl v1, .inl v0]) (rest := []) (en := [some (.inl v0), some (.inl v1)]) dX7_explore_74 rfl (Or.inr rfl) (Nat.le_of_ble_eq_true rfl) rfl (Nat.le_of_ble_eq_true rfl) rfl rfl rfl
theorem rX7_explore_77 {d : Nat} {h : Hp} {Q : Option PV → Hp → Prop} {st : List PV}{ls : List (Option PV)}{a : Int} : WP d mX7_explore 77 ls (.inl a :: st) h Q = (if a = 0 then WP d mX7_explore 97 ls st h Q else WP d mX7_explore 80 ls st h Q) := R_if_eq dX7_explore_77 (by decide)
theorem rX7_explore_80 {d : Nat} {h : Hp} {Q : Option PV → Hp → Prop} {st : List PV}{t : List (Option PV)} {v : Nat} : WP d mX7_explore 80 (some (.inr (.inr v)) :: t) st h Q = WP d mX7_explore 81 (some (.inr (.inr v)) :: t) (.inr (.inr v) :: st) h Q := WP_step dX7_explore_80 rfl rfl rfl
theorem rX7_explore_81 {d : Nat} {h : Hp} {Q : Option PV → Hp → Prop} {st : List PV}{t : List (Option PV)} {v : Nat} : WP d mX7_explore 81 (some (.inr (.inr v)) :: t) st h Q = WP d mX7_explore 82 (some (.inr (.inr v)) :: t) (.inr (.inr v) :: st) h Q := WP_step dX7_explore_81 rfl rfl rfl
theorem rX7_explore_82 {d : Nat} {h : Hp} {Q : Option PV → Hp → Prop} {st : List PV}{x0 x1 x2 : Option PV} {t : List (Option PV)} {v : Int} : WP d mX7_explore 82 (x0 :: x1 :: x2 :: some (.inl v) :: t) st h Q = WP d mX7_explore 83 (x0 :: x1 :: x2 :: some (.inl v) :: t) (.inl v :: st) h Q := WP_step dX7_explore_82 rfl rfl rfl
theorem rX7_explore_83 {d : Nat} {h : Hp} {Q : Option PV → Hp → Prop} {st : List PV}{t : List (Option PV)} {v : Nat} : WP d mX7_explore 83 (some (.inr (.inr v)) :: t) st h Q = WP d mX7_explore 84 (some (.inr (.inr v)) :: t) (.inr (.inr v) :: st) h Q := WP_step dX7_explore_83 rfl rfl rfl
theorem rX7_explore_84 {d : Nat} {h : Hp} {Q : Option PV → Hp → Prop} {st : List PV}{ls : List (Option PV)}{a : Nat} : WP d mX7_explore 84 ls (.inr (.inr a) :: st) h Q = ((hK h a).1 = 7 ∧ WP d mX7_explore 87 ls (.inr (.inr (hR h a 4)) :: st) h Q) := R_get2 dX7_explore_84 rfl
theorem rX7_explore_87 {d : Nat} {h : Hp} {Q : Option PV → Hp → Prop} {st : List PV}{x0 x1 : Option PV} {t : List (Option PV)} {v : Int} : WP d mX7_explore 87 (x0 :: x1 :: some (.inl v) :: t) st h Q = WP d mX7_explore 88 (x0 :: x1 :: some (.inl v) :: t) (.inl v :: st) h Q := WP_step dX7_explore_87 rfl rfl rfl
theorem rX7_explore_88 {d : Nat} {h : Hp} {Q : Option PV → Hp → Prop} {st : List PV}{ls : List (Option PV)}{a : Nat} {z : Int} : WP d mX7_explore 88 ls (.inl z :: .inr (.inr a) :: st) h Q = ((hK h a).1 = 21 ∧ 0 ≤ z ∧ z < (hK h a).2 ∧ WP d mX7_explore 89 ls (.inl (hI h a z.toNat) :: st) h Q) := R_iald dX7_explore_88
theorem rX7_explore_89 {d : Nat} {h : Hp} {Q : Option PV → Hp → Prop} {ls : List (Option PV)}{r0 : PV}{v0 : Nat} {v1 : Int} {v2 : Int} : WP (d + 1) mX7_explore 89 ls (.inl v2 :: .inl v1 :: .inr (.inr v0) :: [r0]) h Q = ((hK h v0).1 = 7 ∧ WP d mX7_after 0 [some (.inr (.inr v0)), some (.inl v1), some (.inl v2), none] [] h (fun r h' => WP (d + 1) mX7_explore 92 ls (psh r [r0]) h' Q)) := R_callV (st := .inl v2 :: .inl v1 :: .inr (.inr v0) :: [r0]) (M := mX7_explore) (pc := 89) (kd := 0) (n := 3) (M' := mX7_after) (as := [.inl v2, .inl v1, .inr (.inr v0)]) (rest := [r0]) (en := [some (.inr (.inr v0)), some (.inl v1), some (.inl v2), none]) dX7_explore_89 rfl (Nat.le_of_ble_eq_true rfl) (Nat.le_of_ble_eq_true rfl) rfl rfl (Nat.le_of_ble_eq_true rfl) rfl rfl rfl
theorem rX7_explore_92 {d : Nat} {h : Hp} {Q : Option PV → Hp → Prop} {st : List PV}{x0 x1 : Option PV} {t : List (Option PV)} {v : Int} : WP d mX7_explore 92 (x0 :: x1 :: some (.inl v) :: t) st h Q = WP d mX7_explore 93 (x0 :: x1 :: some (.inl v) :: t) (.inl v :: st) h Q := WP_step dX7_explore_92 rfl rfl rfl
theorem rX7_explore_93 {d : Nat} {h : Hp} {Q : Option PV → Hp → Prop} {st : List PV}{x0 x1 x2 : Option PV} {t : List (Option PV)} {v : Int} : WP d mX7_explore 93 (x0 :: x1 :: x2 :: some (.inl v) :: t) st h Q = WP d mX7_explore 94 (x0 :: x1 :: x2 :: some (.inl v) :: t) (.inl v :: st) h Q := WP_step dX7_explore_93 rfl rfl rfl
theorem rX7_explore_94 {d : Nat} {h : Hp} {Q : Option PV → Hp → Prop} {ls : List (Option PV)}{v0 : Nat} {v1 : Int} {v2 : Int} {v3 : Int} : WP (d + 1) mX7_explore 94 ls (.inl v3 :: .inl v2 :: .inl v1 :: .inr (.inr v0) :: []) h Q = ((hK h v0).1 = 7 ∧ WP d mX7_find 0 [some (.inr (.inr v0)), some (.inl v1), some (.inl v2), some (.inl v3), none] [] h (fun r h' => WP (d + 1) mX7_explore 97 ls (psh r []) h' Q)) := R_callV (st := .inl v3 :: .inl v2 :: .inl v1 :: .inr (.inr v0) :: []) (M := mX7_explore) (pc := 94) (kd := 0) (n := 4) (M' := mX7_find) (as := [.inl v3, .inl v2, .inl v1, .inr (.inr v0)]) (rest := []) (en := [some (.inr (.inr v0)), some (.inl v1), some (.inl v2), some (.inl v3), none]) dX7_explore_94 rfl (Nat.le_of_ble_eq_true rfl) (Nat.le_of_ble_eq_true rfl) rfl rfl (Nat.le_of_ble_eq_true rfl) rfl rfl rfl
theorem rX7_explore_97 {d : Nat} {h : Hp} {Q : Option PV → Hp → Prop} {st : List PV}{x0 x1 x2 : Option PV} {t : List (Option PV)} {v : Int} : WP d mX7_explore 97 (x0 :: x1 :: x2 :: some (.inl v) :: t) st h Q = WP d mX7_explore 100 (x0 :: x1 :: x2 :: some (.inl (w32 (v + 1))) :: t) st h Q := WP_step dX7_explore_97 rfl rfl rfl
theorem rX7_explore_100 {d : Nat} {h : Hp} {Q : Option PV → Hp → Prop} {st : List PV}{ls : List (Option PV)} : WP d mX7_explore 100 ls st h Q = WP d mX7_explore 61 ls st h Q := R_goto dX7_explore_100 (by decide)
theorem rX7_explore_103 {d : Nat} {h : Hp} {Q : Option PV → Hp → Prop} {st : List PV}{x0 x1 : Option PV} {t : List (Option PV)} {v : Int} : WP d mX7_explore 103 (x0 :: x1 :: some (.inl v) :: t) st h Q = WP d mX7_explore 106 (x0 :: x1 :: some (.inl (w32 (v + 1))) :: t) st h Q := WP_step dX7_explore_103 rfl rfl rfl
theorem rX7_explore_106 {d : Nat} {h : Hp} {Q : Option PV → Hp → Prop} {st : List PV}{ls : List (Option PV)} : WP d mX7_explore 106 ls st h Q = WP d mX7_explore 44 ls st h Q := R_goto dX7_explore_106 (by decide)
theorem rX7_explore_109 {d : Nat} {h : Hp} {Q : Option PV → Hp → Prop} {ls : List (Option PV)} : WP d mX7_explore 109 ls [] h Q = Q none h := R_vret dX7_explore_109 rfl
theorem dX7_find_0 : decode prog_9_method_5_code 0 = .ok (.aload_n 0, 1) := by decide +kernel
theorem dX7_find_1 : decode prog_9_method_5_code 1 = .ok (.getfield 29, 3) := by decide +kernel
theorem dX7_find_4 : decode prog_9_method_5_code 4 = .ok (.iload_n 1, 1) := by decide +kernel
theorem dX7_find_5 : decode prog_9_method_5_code 5 = .ok (.iaload, 1) := by decide +kernel
theorem dX7_find_6 : decode prog_9_method_5_code 6 = .ok (.istore 4, 2) := by decide +kernel
theorem dX7_find_8 : decode prog_9_method_5_code 8 = .ok (.iload 4, 2) := by decide +kernel
theorem dX7_find_10 : decode prog_9_method_5_code 10 = .ok (.aload_n 0, 1) := by decide +kernel
theorem dX7_find_11 : decode prog_9_method_5_code 11 = .ok (.getfield 86, 3) := by decide +kernel
theorem dX7_find_14 : decode prog_9_method_5_code 14 = .ok (.if_icmp .ge 14, 3) := by decide +kernel
theorem dX7_find_17 : decode prog_9_method_5_code 17 = .ok (.aload_n 0, 1) := by decide +kernel
theorem dX7_find_18 : decode prog_9_method_5_code 18 = .ok (.getfield 26, 3) := by decide +kernel
theorem dX7_find_21 : decode prog_9_method_5_code 21 = .ok (.iload 4, 2) := by decide +kernel
theorem dX7_find_23 : decode prog_9_method_5_code 23 = .ok (.iaload, 1) := by decide +kernel
theorem dX7_find_24 : decode prog_9_method_5_code 24 = .ok (.iload_n 1, 1) := by decide +kernel
theorem dX7_find_25 : decode prog_9_method_5_code 25 = .ok (.if_icmp .eq 13, 3) := by decide +kernel
theorem dX7_find_28 : decode prog_9_method_5_code 28 = .ok (.aload_n 0, 1) := by decide +kernel
theorem dX7_find_29 : decode prog_9_method_5_code 29 = .ok (.getfield 86, 3) := by decide +kernel
theorem dX7_find_32 : decode prog_9_method_5_code 32 = .ok (.sipush 1600, 3) := by decide +kernel
theorem dX7_find_35 : decode prog_9_method_5_code 35 = .ok (.if_icmp .lt 4, 3) := by decide +kernel
theorem dX7_find_38 : decode prog_9_method_5_code 38 = .ok (.return_, 1) := by decide +kernel
theorem dX7_find_39 : decode prog_9_method_5_code 39 = .ok (.aload_n 0, 1) := by decide +kernel
theorem dX7_find_40 : decode prog_9_method_5_code 40 = .ok (.getfield 26, 3) := by decide +kernel
theorem dX7_find_43 : decode prog_9_method_5_code 43 = .ok (.aload_n 0, 1) := by decide +kernel
theorem dX7_find_44 : decode prog_9_method_5_code 44 = .ok (.getfield 86, 3) := by decide +kernel
theorem dX7_find_47 : decode prog_9_method_5_code 47 = .ok (.iload_n 1, 1) := by decide +kernel
theorem dX7_find_48 : decode prog_9_method_5_code 48 = .ok (.iastore, 1) := by decide +kernel
theorem dX7_find_49 : decode prog_9_method_5_code 49 = .ok (.aload_n 0, 1) := by decide +kernel
theorem dX7_find_50 : decode prog_9_method_5_code 50 = .ok (.getfield 29, 3) := by decide +kernel
theorem dX7_find_53 : decode prog_9_method_5_code 53 = .ok (.iload_n 1, 1) := by decide +kernel
theorem dX7_find_54 : decode prog_9_method_5_code 54 = .ok (.aload_n 0, 1) := by decide +kernel
theorem dX7_find_55 : decode prog_9_method_5_code 55 = .ok (.getfield 86, 3) := by decide +kernel
theorem dX7_find_58 : decode prog_9_method_5_code 58 = .ok (.iastore, 1) := by decide +kernel
theorem dX7_find_59 : decode prog_9_method_5_code 59 = .ok (.aload_n 0, 1) := by decide +kernel
theorem dX7_find_60 : decode prog_9_method_5_code 60 = .ok (.getfield 32, 3) := by decide +kernel
theorem dX7_find_63 : decode prog_9_method_5_code 63 = .ok (.aload_n 0, 1) := by decide +kernel
theorem dX7_find_64 : decode prog_9_method_5_code 64 = .ok (.getfield 86, 3) := by decide +kernel
theorem dX7_find_67 : decode prog_9_method_5_code 67 = .ok (.iload_n 2, 1) := by decide +kernel
theorem dX7_find_68 : decode prog_9_method_5_code 68 = .ok (.iastore, 1) := by decide +kernel
theorem dX7_find_69 : decode prog_9_method_5_code 69 = .ok (.aload_n 0, 1) := by decide +kernel
theorem dX7_find_70 : decode prog_9_method_5_code 70 = .ok (.getfield 35, 3) := by decide +kernel
theorem dX7_find_73 : decode prog_9_method_5_code 73 = .ok (.aload_n 0, 1) := by decide +kernel
theorem dX7_find_74 : decode prog_9_method_5_code 74 = .ok (.getfield 86, 3) := by decide +kernel
theorem dX7_find_77 : decode prog_9_method_5_code 77 = .ok (.iload_n 3, 1) := by decide +kernel
theorem dX7_find_78 : decode prog_9_method_5_code 78 = .ok (.iastore, 1) := by decide +kernel
theorem dX7_find_79 : decode prog_9_method_5_code 79 = .ok (.aload_n 0, 1) := by decide +kernel
theorem dX7_find_80 : decode prog_9_method_5_code 80 = .ok (.getfield 38, 3) := by decide +kernel
theorem dX7_find_83 : decode prog_9_method_5_code 83 = .ok (.aload_n 0, 1) := by decide +kernel
theorem dX7_find_84 : decode prog_9_method_5_code 84 = .ok (.getfield 86, 3) := by decide +kernel
theorem dX7_find_87 : decode prog_9_method_5_code 87 = .ok (.aload_n 0, 1) := by decide +kernel
theorem dX7_find_88 : decode prog_9_method_5_code 88 = .ok (.getfield 86, 3) := by decide +kernel
theorem dX7_find_91 : decode prog_9_method_5_code 91 = .ok (.ifCond .ne 7, 3) := by decide +kernel
theorem dX7_find_94 : decode prog_9_method_5_code 94 = .ok (.iconst 0, 1) := by decide +kernel
theorem dX7_find_95 : decode prog_9_method_5_code 95 = .ok (.goto 11, 3) := by decide +kernel
theorem dX7_find_98 : decode prog_9_method_5_code 98 = .ok (.aload_n 0, 1) := by decide +kernel
theorem dX7_find_99 : decode prog_9_method_5_code 99 = .ok (.getfield 38, 3) := by decide +kernel
theorem dX7_find_102 : decode prog_9_method_5_code 102 = .ok (.iload_n 2, 1) := by decide +kernel
theorem dX7_find_103 : decode prog_9_method_5_code 103 = .ok (.iaload, 1) := by decide +kernel
theorem dX7_find_104 : decode prog_9_method_5_code 104 = .ok (.iconst 1, 1) := by decide +kernel
theorem dX7_find_105 : decode prog_9_method_5_code 105 = .ok (.iadd, 1) := by decide +kernel
theorem dX7_find_106 : decode prog_9_method_5_code 106 = .ok (.iastore, 1) := by decide +kernel
theorem dX7_find_107 : decode prog_9_method_5_code 107 = .ok (.aload_n 0, 1) := by decide +kernel
theorem dX7_find_108 : decode prog_9_method_5_code 108 = .ok (.dup, 1) := by decide +kernel
theorem dX7_find_109 : decode prog_9_method_5_code 109 = .ok (.getfield 86, 3) := by decide +kernel
theorem dX7_find_112 : decode prog_9_method_5_code 112 = .ok (.iconst 1, 1) := by decide +kernel
theorem dX7_find_113 : decode prog_9_method_5_code 113 = .ok (.iadd, 1) := by decide +kernel
theorem dX7_find_114 : decode prog_9_method_5_code 114 = .ok (.putfield 86, 3) := by decide +kernel
theorem dX7_find_117 : decode prog_9_method_5_code 117 = .ok (.return_, 1) := by decide +kernel
theorem rX7_find_0 {d : Nat} {h : Hp} {Q : Option PV → Hp → Prop} {st : List PV}{t : List (Option PV)} {v : Nat} : WP d mX7_find 0 (some (.inr (.inr v)) :: t) st h Q = WP d mX7_find 1 (some (.inr (.inr v)) :: t) (.inr (.inr v) :: st) h Q := WP_step dX7_find_0 rfl rfl rfl
theorem rX7_find_1 {d : Nat} {h : Hp} {Q : Option PV → Hp → Prop} {st : List PV}{ls : List (Option PV)}{a : Nat} : WP d mX7_find 1 ls (.inr (.inr a) :: st) h Q = ((hK h a).1 = 7 ∧ WP d mX7_find 4 ls (.inr (.inr (hR h a 5)) :: st) h Q) := R_get2 dX7_find_1 rfl
theorem rX7_find_4 {d : Nat} {h : Hp} {Q : Option PV → Hp → Prop} {st : List PV}{x0 : Option PV} {t : List (Option PV)} {v : Int} : WP d mX7_find 4 (x0 :: some (.inl v) :: t) st h Q = WP d mX7_find 5 (x0 :: some (.inl v) :: t) (.inl v :: st) h Q := WP_step dX7_find_4 rfl rfl rfl
theorem rX7_find_5 {d : Nat} {h : Hp} {Q : Option PV → Hp → Prop} {st : List PV}{ls : List (Option PV)}{a : Nat} {z : Int} : WP d mX7_find 5 ls (.inl z :: .inr (.inr a) :: st) h Q = ((hK h a).1 = 21 ∧ 0 ≤ z ∧ z < (hK h a).2 ∧ WP d mX7_find 6 ls (.inl (hI h a z.toNat) :: st) h Q) := R_iald dX7_find_5
theorem rX7_find_6 {d : Nat} {h : Hp} {Q : Option PV → Hp → Prop} {st : List PV}{x0 x1 x2 x3 x4 : Option PV} {v : Int} : WP d mX7_find 6 [x0, x1, x2, x3, x4] (.inl v :: st) h Q = WP d mX7_find 8 [x0, x1, x2, x3, some (.inl v)] st h Q := WP_step dX7_find_6 rfl rfl rfl
theorem rX7_find_8 {d : Nat} {h : Hp} {Q : Option PV → Hp → Prop} {st : List PV}{x0 x1 x2 x3 : Option PV} {t : List (Option PV)} {v : Int} : WP d mX7_find 8 (x0 :: x1 :: x2 :: x3 :: some (.inl v) :: t) st h Q = WP d mX7_find 10 (x0 :: x1 :: x2 :: x3 :: some (.inl v) :: t) (.inl v :: st) h Q := WP_step dX7_find_8 rfl rfl rfl
theorem rX7_find_10 {d : Nat} {h : Hp} {Q : Option PV → Hp → Prop} {st : List PV}{t : List (Option PV)} {v : Nat} : WP d mX7_find 10 (some (.inr (.inr v)) :: t) st h Q = WP d mX7_find 11 (some (.inr (.inr v)) :: t) (.inr (.inr v) :: st) h Q := WP_step dX7_find_10 rfl rfl rfl
theorem rX7_find_11 {d : Nat} {h : Hp} {Q : Option PV → Hp → Prop} {st : List PV}{ls : List (Option PV)}{a : Nat} : WP d mX7_find 11 ls (.inr (.inr a) :: st) h Q = ((hK h a).1 = 7 ∧ WP d mX7_find 14 ls (.inl (hI h a 12) :: st) h Q) := R_get0 dX7_find_11 rfl
theorem rX7_find_14 {d : Nat} {h : Hp} {Q : Option PV → Hp → Prop} {st : List PV}{ls : List (Option PV)}{a b : Int} : WP d mX7_find 14 ls (.inl b :: .inl a :: st) h Q = (if a < b then WP d mX7_find 17 ls st h Q else WP d mX7_find 28 ls st h Q) := R_icmp_ge dX7_find_14 (by decide)
theorem rX7_find_17 {d : Nat} {h : Hp} {Q : Option PV → Hp → Prop} {st : List PV}{t : List (Option PV)} {v : Nat} : WP d mX7_find 17 (some (.inr (.inr v)) :: t) st h Q = WP d mX7_find 18 (some (.inr (.inr v)) :: t) (.inr (.inr v) :: st) h Q := WP_step dX7_find_17 rfl rfl rfl
theorem rX7_find_18 {d : Nat} {h : Hp} {Q : Option PV → Hp → Prop} {st : List PV}{ls : List (Option PV)}{a : Nat} : WP d mX7_find 18 ls (.inr (.inr a) :: st) h Q = ((hK h a).1 = 7 ∧ WP d mX7_find 21 ls (.inr (.inr (hR h a 4)) :: st) h Q) := R_get2 dX7_find_18 rfl
theorem rX7_find_21 {d : Nat} {h : Hp} {Q : Option PV → Hp → Prop} {st : List PV}{x0 x1 x2 x3 : Option PV} {t : List (Option PV)} {v : Int} : WP d mX7_find 21 (x0 :: x1 :: x2 :: x3 :: some (.inl v) :: t) st h Q = WP d mX7_find 23 (x0 :: x1 :: x2 :: x3 :: some (.inl v) :: t) (.inl v :: st) h Q := WP_step dX7_find_21 rfl rfl rfl
theorem rX7_find_23 {d : Nat} {h : Hp} {Q : Option PV → Hp → Prop} {st : List PV}{ls : List (Option PV)}{a : Nat} {z : Int} : WP d mX7_find 23 ls (.inl z :: .inr (.inr a) :: st) h Q = ((hK h a).1 = 21 ∧ 0 ≤ z ∧ z < (hK h a).2 ∧ WP d mX7_find 24 ls (.inl (hI h a z.toNat) :: st) h Q) := R_iald dX7_find_23
theorem rX7_find_24 {d : Nat} {h : Hp} {Q : Option PV → Hp → Prop} {st : List PV}{x0 : Option PV} {t : List (Option PV)} {v : Int} : WP d mX7_find 24 (x0 :: some (.inl v) :: t) st h Q = WP d mX7_find 25 (x0 :: some (.inl v) :: t) (.inl v :: st) h Q := WP_step dX7_find_24 rfl rfl rfl
theorem rX7_find_25 {d : Nat} {h : Hp} {Q : Option PV → Hp → Prop} {st : List PV}{ls : List (Option PV)}{a b : Int} : WP d mX7_find 25 ls (.inl b :: .inl a :: st) h Q = (if a = b then WP d mX7_find 38 ls st h Q else WP d mX7_find 28 ls st h Q) := R_icmp_eq dX7_find_25 (by decide)
theorem rX7_find_28 {d : Nat} {h : Hp} {Q : Option PV → Hp → Prop} {st : List PV}{t : List (Option PV)} {v : Nat} : WP d mX7_find 28 (some (.inr (.inr v)) :: t) st h Q = WP d mX7_find 29 (some (.inr (.inr v)) :: t) (.inr (.inr v) :: st) h Q := WP_step dX7_find_28 rfl rfl rfl
theorem rX7_find_29 {d : Nat} {h : Hp} {Q : Option PV → Hp → Prop} {st : List PV}{ls : List (Option PV)}{a : Nat} : WP d mX7_find 29 ls (.inr (.inr a) :: st) h Q = ((hK h a).1 = 7 ∧ WP d mX7_find 32 ls (.inl (hI h a 12) :: st) h Q) := R_get0 dX7_find_29 rfl
theorem rX7_find_32 {d : Nat} {h : Hp} {Q : Option PV → Hp → Prop} {st : List PV}{ls : List (Option PV)} : WP d mX7_find 32 ls st h Q = WP d mX7_find 35 ls (.inl (1600) :: st) h Q := WP_step dX7_find_32 rfl rfl rfl
theorem rX7_find_35 {d : Nat} {h : Hp} {Q : Option PV → Hp → Prop} {st : List PV}{ls : List (Option PV)}{a b : Int} : WP d mX7_find 35 ls (.inl b :: .inl a :: st) h Q = (if a < b then WP d mX7_find 39 ls st h Q else WP d mX7_find 38 ls st h Q) := R_icmp_lt dX7_find_35 (by decide)
theorem rX7_find_38 {d : Nat} {h : Hp} {Q : Option PV → Hp → Prop} {ls : List (Option PV)} : WP d mX7_find 38 ls [] h Q = Q none h := R_vret dX7_find_38 rfl
theorem rX7_find_39 {d : Nat} {h : Hp} {Q : Option PV → Hp → Prop} {st : List PV}{t : List (Option PV)} {v : Nat} : WP d mX7_find 39 (some (.inr (.inr v)) :: t) st h Q = WP d mX7_find 40 (some (.inr (.inr v)) :: t) (.inr (.inr v) :: st) h Q := WP_step dX7_find_39 rfl rfl rfl
theorem rX7_find_40 {d : Nat} {h : Hp} {Q : Option PV → Hp → Prop} {st : List PV}{ls : List (Option PV)}{a : Nat} : WP d mX7_find 40 ls (.inr (.inr a) :: st) h Q = ((hK h a).1 = 7 ∧ WP d mX7_find 43 ls (.inr (.inr (hR h a 4)) :: st) h Q) := R_get2 dX7_find_40 rfl
theorem rX7_find_43 {d : Nat} {h : Hp} {Q : Option PV → Hp → Prop} {st : List PV}{t : List (Option PV)} {v : Nat} : WP d mX7_find 43 (some (.inr (.inr v)) :: t) st h Q = WP d mX7_find 44 (some (.inr (.inr v)) :: t) (.inr (.inr v) :: st) h Q := WP_step dX7_find_43 rfl rfl rfl
theorem rX7_find_44 {d : Nat} {h : Hp} {Q : Option PV → Hp → Prop} {st : List PV}{ls : List (Option PV)}{a : Nat} : WP d mX7_find 44 ls (.inr (.inr a) :: st) h Q = ((hK h a).1 = 7 ∧ WP d mX7_find 47 ls (.inl (hI h a 12) :: st) h Q) := R_get0 dX7_find_44 rfl
theorem rX7_find_47 {d : Nat} {h : Hp} {Q : Option PV → Hp → Prop} {st : List PV}{x0 : Option PV} {t : List (Option PV)} {v : Int} : WP d mX7_find 47 (x0 :: some (.inl v) :: t) st h Q = WP d mX7_find 48 (x0 :: some (.inl v) :: t) (.inl v :: st) h Q := WP_step dX7_find_47 rfl rfl rfl
theorem rX7_find_48 {d : Nat} {h : Hp} {Q : Option PV → Hp → Prop} {st : List PV}{ls : List (Option PV)}{a : Nat} {z v : Int} : WP d mX7_find 48 ls (.inl v :: .inl z :: .inr (.inr a) :: st) h Q = (200 ≤ a ∧ (hK h a).1 = 21 ∧ 0 ≤ z ∧ z < (hK h a).2 ∧ WP d mX7_find 49 ls st (wI h a z.toNat v) Q) := R_iast dX7_find_48
theorem rX7_find_49 {d : Nat} {h : Hp} {Q : Option PV → Hp → Prop} {st : List PV}{t : List (Option PV)} {v : Nat} : WP d mX7_find 49 (some (.inr (.inr v)) :: t) st h Q = WP d mX7_find 50 (some (.inr (.inr v)) :: t) (.inr (.inr v) :: st) h Q := WP_step dX7_find_49 rfl rfl rfl
theorem rX7_find_50 {d : Nat} {h : Hp} {Q : Option PV → Hp → Prop} {st : List PV}{ls : List (Option PV)}{a : Nat} : WP d mX7_find 50 ls (.inr (.inr a) :: st) h Q = ((hK h a).1 = 7 ∧ WP d mX7_find 53 ls (.inr (.inr (hR h a 5)) :: st) h Q) := R_get2 dX7_find_50 rfl
theorem rX7_find_53 {d : Nat} {h : Hp} {Q : Option PV → Hp → Prop} {st : List PV}{x0 : Option PV} {t : List (Option PV)} {v : Int} : WP d mX7_find 53 (x0 :: some (.inl v) :: t) st h Q = WP d mX7_find 54 (x0 :: some (.inl v) :: t) (.inl v :: st) h Q := WP_step dX7_find_53 rfl rfl rfl
theorem rX7_find_54 {d : Nat} {h : Hp} {Q : Option PV → Hp → Prop} {st : List PV}{t : List (Option PV)} {v : Nat} : WP d mX7_find 54 (some (.inr (.inr v)) :: t) st h Q = WP d mX7_find 55 (some (.inr (.inr v)) :: t) (.inr (.inr v) :: st) h Q := WP_step dX7_find_54 rfl rfl rfl
theorem rX7_find_55 {d : Nat} {h : Hp} {Q : Option PV → Hp → Prop} {st : List PV}{ls : List (Option PV)}{a : Nat} : WP d mX7_find 55 ls (.inr (.inr a) :: st) h Q = ((hK h a).1 = 7 ∧ WP d mX7_find 58 ls (.inl (hI h a 12) :: st) h Q) := R_get0 dX7_find_55 rfl
theorem rX7_find_58 {d : Nat} {h : Hp} {Q : Option PV → Hp → Prop} {st : List PV}{ls : List (Option PV)}{a : Nat} {z v : Int} : WP d mX7_find 58 ls (.inl v :: .inl z :: .inr (.inr a) :: st) h Q = (200 ≤ a ∧ (hK h a).1 = 21 ∧ 0 ≤ z ∧ z < (hK h a).2 ∧ WP d mX7_find 59 ls st (wI h a z.toNat v) Q) := R_iast dX7_find_58
theorem rX7_find_59 {d : Nat} {h : Hp} {Q : Option PV → Hp → Prop} {st : List PV}{t : List (Option PV)} {v : Nat} : WP d mX7_find 59 (some (.inr (.inr v)) :: t) st h Q = WP d mX7_find 60 (some (.inr (.inr v)) :: t) (.inr (.inr v) :: st) h Q := WP_step dX7_find_59 rfl rfl rfl
theorem rX7_find_60 {d : Nat} {h : Hp} {Q : Option PV → Hp → Prop} {st : List PV}{ls : List (Option PV)}{a : Nat} : WP d mX7_find 60 ls (.inr (.inr a) :: st) h Q = ((hK h a).1 = 7 ∧ WP d mX7_find 63 ls (.inr (.inr (hR h a 6)) :: st) h Q) := R_get2 dX7_find_60 rfl
theorem rX7_find_63 {d : Nat} {h : Hp} {Q : Option PV → Hp → Prop} {st : List PV}{t : List (Option PV)} {v : Nat} : WP d mX7_find 63 (some (.inr (.inr v)) :: t) st h Q = WP d mX7_find 64 (some (.inr (.inr v)) :: t) (.inr (.inr v) :: st) h Q := WP_step dX7_find_63 rfl rfl rfl
theorem rX7_find_64 {d : Nat} {h : Hp} {Q : Option PV → Hp → Prop} {st : List PV}{ls : List (Option PV)}{a : Nat} : WP d mX7_find 64 ls (.inr (.inr a) :: st) h Q = ((hK h a).1 = 7 ∧ WP d mX7_find 67 ls (.inl (hI h a 12) :: st) h Q) := R_get0 dX7_find_64 rfl
theorem rX7_find_67 {d : Nat} {h : Hp} {Q : Option PV → Hp → Prop} {st : List PV}{x0 x1 : Option PV} {t : List (Option PV)} {v : Int} : WP d mX7_find 67 (x0 :: x1 :: some (.inl v) :: t) st h Q = WP d mX7_find 68 (x0 :: x1 :: some (.inl v) :: t) (.inl v :: st) h Q := WP_step dX7_find_67 rfl rfl rfl
theorem rX7_find_68 {d : Nat} {h : Hp} {Q : Option PV → Hp → Prop} {st : List PV}{ls : List (Option PV)}{a : Nat} {z v : Int} : WP d mX7_find 68 ls (.inl v :: .inl z :: .inr (.inr a) :: st) h Q = (200 ≤ a ∧ (hK h a).1 = 21 ∧ 0 ≤ z ∧ z < (hK h a).2 ∧ WP d mX7_find 69 ls st (wI h a z.toNat v) Q) := R_iast dX7_find_68
theorem rX7_find_69 {d : Nat} {h : Hp} {Q : Option PV → Hp → Prop} {st : List PV}{t : List (Option PV)} {v : Nat} : WP d mX7_find 69 (some (.inr (.inr v)) :: t) st h Q = WP d mX7_find 70 (some (.inr (.inr v)) :: t) (.inr (.inr v) :: st) h Q := WP_step dX7_find_69 rfl rfl rfl
theorem rX7_find_70 {d : Nat} {h : Hp} {Q : Option PV → Hp → Prop} {st : List PV}{ls : List (Option PV)}{a : Nat} : WP d mX7_find 70 ls (.inr (.inr a) :: st) h Q = ((hK h a).1 = 7 ∧ WP d mX7_find 73 ls (.inr (.inr (hR h a 7)) :: st) h Q) := R_get2 dX7_find_70 rfl
theorem rX7_find_73 {d : Nat} {h : Hp} {Q : Option PV → Hp → Prop} {st : List PV}{t : List (Option PV)} {v : Nat} : WP d mX7_find 73 (some (.inr (.inr v)) :: t) st h Q = WP d mX7_find 74 (some (.inr (.inr v)) :: t) (.inr (.inr v) :: st) h Q := WP_step dX7_find_73 rfl rfl rfl
theorem rX7_find_74 {d : Nat} {h : Hp} {Q : Option PV → Hp → Prop} {st : List PV}{ls : List (Option PV)}{a : Nat} : WP d mX7_find 74 ls (.inr (.inr a) :: st) h Q = ((hK h a).1 = 7 ∧ WP d mX7_find 77 ls (.inl (hI h a 12) :: st) h Q) := R_get0 dX7_find_74 rfl
theorem rX7_find_77 {d : Nat} {h : Hp} {Q : Option PV → Hp → Prop} {st : List PV}{x0 x1 x2 : Option PV} {t : List (Option PV)} {v : Int} : WP d mX7_find 77 (x0 :: x1 :: x2 :: some (.inl v) :: t) st h Q = WP d mX7_find 78 (x0 :: x1 :: x2 :: some (.inl v) :: t) (.inl v :: st) h Q := WP_step dX7_find_77 rfl rfl rfl
theorem rX7_find_78 {d : Nat} {h : Hp} {Q : Option PV → Hp → Prop} {st : List PV}{ls : List (Option PV)}{a : Nat} {z v : Int} : WP d mX7_find 78 ls (.inl v :: .inl z :: .inr (.inr a) :: st) h Q = (200 ≤ a ∧ (hK h a).1 = 21 ∧ 0 ≤ z ∧ z < (hK h a).2 ∧ WP d mX7_find 79 ls st (wI h a z.toNat v) Q) := R_iast dX7_find_78
theorem rX7_find_79 {d : Nat} {h : Hp} {Q : Option PV → Hp → Prop} {st : List PV}{t : List (Option PV)} {v : Nat} : WP d mX7_find 79 (some (.inr (.inr v)) :: t) st h Q = WP d mX7_find 80 (some (.inr (.inr v)) :: t) (.inr (.inr v) :: st) h Q := WP_step dX7_find_79 rfl rfl rfl
theorem rX7_find_80 {d : Nat} {h : Hp} {Q : Option PV → Hp → Prop} {st : List PV}{ls : List (Option PV)}{a : Nat} : WP d mX7_find 80 ls (.inr (.inr a) :: st) h Q = ((hK h a).1 = 7 ∧ WP d mX7_find 83 ls (.inr (.inr (hR h a 8)) :: st) h Q) := R_get2 dX7_find_80 rfl
theorem rX7_find_83 {d : Nat} {h : Hp} {Q : Option PV → Hp → Prop} {st : List PV}{t : List (Option PV)} {v : Nat} : WP d mX7_find 83 (some (.inr (.inr v)) :: t) st h Q = WP d mX7_find 84 (some (.inr (.inr v)) :: t) (.inr (.inr v) :: st) h Q := WP_step dX7_find_83 rfl rfl rfl
theorem rX7_find_84 {d : Nat} {h : Hp} {Q : Option PV → Hp → Prop} {st : List PV}{ls : List (Option PV)}{a : Nat} : WP d mX7_find 84 ls (.inr (.inr a) :: st) h Q = ((hK h a).1 = 7 ∧ WP d mX7_find 87 ls (.inl (hI h a 12) :: st) h Q) := R_get0 dX7_find_84 rfl
theorem rX7_find_87 {d : Nat} {h : Hp} {Q : Option PV → Hp → Prop} {st : List PV}{t : List (Option PV)} {v : Nat} : WP d mX7_find 87 (some (.inr (.inr v)) :: t) st h Q = WP d mX7_find 88 (some (.inr (.inr v)) :: t) (.inr (.inr v) :: st) h Q := WP_step dX7_find_87 rfl rfl rfl
theorem rX7_find_88 {d : Nat} {h : Hp} {Q : Option PV → Hp → Prop} {st : List PV}{ls : List (Option PV)}{a : Nat} : WP d mX7_find 88 ls (.inr (.inr a) :: st) h Q = ((hK h a).1 = 7 ∧ WP d mX7_find 91 ls (.inl (hI h a 12) :: st) h Q) := R_get0 dX7_find_88 rfl
theorem rX7_find_91 {d : Nat} {h : Hp} {Q : Option PV → Hp → Prop} {st : List PV}{ls : List (Option PV)}{a : Int} : WP d mX7_find 91 ls (.inl a :: st) h Q = (if a = 0 then WP d mX7_find 94 ls st h Q else WP d mX7_find 98 ls st h Q) := R_if_ne dX7_find_91 (by decide)
theorem rX7_find_94 {d : Nat} {h : Hp} {Q : Option PV → Hp → Prop} {st : List PV}{ls : List (Option PV)} : WP d mX7_find 94 ls st h Q = WP d mX7_find 95 ls (.inl (0) :: st) h Q := WP_step dX7_find_94 rfl rfl rfl
theorem rX7_find_95 {d : Nat} {h : Hp} {Q : Option PV → Hp → Prop} {st : List PV}{ls : List (Option PV)} : WP d mX7_find 95 ls st h Q = WP d mX7_find 106 ls st h Q := R_goto dX7_find_95 (by decide)
theorem rX7_find_98 {d : Nat} {h : Hp} {Q : Option PV → Hp → Prop} {st : List PV}{t : List (Option PV)} {v : Nat} : WP d mX7_find 98 (some (.inr (.inr v)) :: t) st h Q = WP d mX7_find 99 (some (.inr (.inr v)) :: t) (.inr (.inr v) :: st) h Q := WP_step dX7_find_98 rfl rfl rfl
theorem rX7_find_99 {d : Nat} {h : Hp} {Q : Option PV → Hp → Prop} {st : List PV}{ls : List (Option PV)}{a : Nat} : WP d mX7_find 99 ls (.inr (.inr a) :: st) h Q = ((hK h a).1 = 7 ∧ WP d mX7_find 102 ls (.inr (.inr (hR h a 8)) :: st) h Q) := R_get2 dX7_find_99 rfl
theorem rX7_find_102 {d : Nat} {h : Hp} {Q : Option PV → Hp → Prop} {st : List PV}{x0 x1 : Option PV} {t : List (Option PV)} {v : Int} : WP d mX7_find 102 (x0 :: x1 :: some (.inl v) :: t) st h Q = WP d mX7_find 103 (x0 :: x1 :: some (.inl v) :: t) (.inl v :: st) h Q := WP_step dX7_find_102 rfl rfl rfl
theorem rX7_find_103 {d : Nat} {h : Hp} {Q : Option PV → Hp → Prop} {st : List PV}{ls : List (Option PV)}{a : Nat} {z : Int} : WP d mX7_find 103 ls (.inl z :: .inr (.inr a) :: st) h Q = ((hK h a).1 = 21 ∧ 0 ≤ z ∧ z < (hK h a).2 ∧ WP d mX7_find 104 ls (.inl (hI h a z.toNat) :: st) h Q) := R_iald dX7_find_103
theorem rX7_find_104 {d : Nat} {h : Hp} {Q : Option PV → Hp → Prop} {st : List PV}{ls : List (Option PV)} : WP d mX7_find 104 ls st h Q = WP d mX7_find 105 ls (.inl (1) :: st) h Q := WP_step dX7_find_104 rfl rfl rfl
theorem rX7_find_105 {d : Nat} {h : Hp} {Q : Option PV → Hp → Prop} {st : List PV}{ls : List (Option PV)}{a b : Int} : WP d mX7_find 105 ls (.inl b :: .inl a :: st) h Q = WP d mX7_find 106 ls (.inl (w32 (a + b)) :: st) h Q := WP_step dX7_find_105 rfl rfl rfl
theorem rX7_find_106 {d : Nat} {h : Hp} {Q : Option PV → Hp → Prop} {st : List PV}{ls : List (Option PV)}{a : Nat} {z v : Int} : WP d mX7_find 106 ls (.inl v :: .inl z :: .inr (.inr a) :: st) h Q = (200 ≤ a ∧ (hK h a).1 = 21 ∧ 0 ≤ z ∧ z < (hK h a).2 ∧ WP d mX7_find 107 ls st (wI h a z.toNat v) Q) := R_iast dX7_find_106
theorem rX7_find_107 {d : Nat} {h : Hp} {Q : Option PV → Hp → Prop} {st : List PV}{t : List (Option PV)} {v : Nat} : WP d mX7_find 107 (some (.inr (.inr v)) :: t) st h Q = WP d mX7_find 108 (some (.inr (.inr v)) :: t) (.inr (.inr v) :: st) h Q := WP_step dX7_find_107 rfl rfl rfl
theorem rX7_find_108 {d : Nat} {h : Hp} {Q : Option PV → Hp → Prop} {st : List PV}{ls : List (Option PV)}{a : Nat} : WP d mX7_find 108 ls (.inr (.inr a) :: st) h Q = WP d mX7_find 109 ls (.inr (.inr a) :: .inr (.inr a) :: st) h Q := WP_step dX7_find_108 rfl rfl rfl
theorem rX7_find_109 {d : Nat} {h : Hp} {Q : Option PV → Hp → Prop} {st : List PV}{ls : List (Option PV)}{a : Nat} : WP d mX7_find 109 ls (.inr (.inr a) :: st) h Q = ((hK h a).1 = 7 ∧ WP d mX7_find 112 ls (.inl (hI h a 12) :: st) h Q) := R_get0 dX7_find_109 rfl
theorem rX7_find_112 {d : Nat} {h : Hp} {Q : Option PV → Hp → Prop} {st : List PV}{ls : List (Option PV)} : WP d mX7_find 112 ls st h Q = WP d mX7_find 113 ls (.inl (1) :: st) h Q := WP_step dX7_find_112 rfl rfl rfl
theorem rX7_find_113 {d : Nat} {h : Hp} {Q : Option PV → Hp → Prop} {st : List PV}{ls : List (Option PV)}{a b : Int} : WP d mX7_find 113 ls (.inl b :: .inl a :: st) h Q = WP d mX7_find 114 ls (.inl (w32 (a + b)) :: st) h Q := WP_step dX7_find_113 rfl rfl rfl
theorem rX7_find_114 {d : Nat} {h : Hp} {Q : Option PV → Hp → Prop} {st : List PV}{ls : List (Option PV)}{a : Nat} {v : Int} : WP d mX7_find 114 ls (.inl v :: .inr (.inr a) :: st) h Q = ((hK h a).1 = 7 ∧ 200 ≤ a ∧ WP d mX7_find 117 ls st (wI h a 12 v) Q) := R_put0 dX7_find_114 rfl
theorem rX7_find_117 {d : Nat} {h : Hp} {Q : Option PV → Hp → Prop} {ls : List (Option PV)} : WP d mX7_find 117 ls [] h Q = Q none h := R_vret dX7_find_117 rfl
theorem dX7_after_0 : decode prog_9_method_6_code 0 = .ok (.iload_n 1, 1) := by decide +kernel
theorem dX7_after_1 : decode prog_9_method_6_code 1 = .ok (.sipush 6400, 3) := by decide +kernel
theorem dX7_after_4 : decode prog_9_method_6_code 4 = .ok (.imul, 1) := by decide +kernel
theorem dX7_after_5 : decode prog_9_method_6_code 5 = .ok (.iload_n 2, 1) := by decide +kernel
theorem dX7_after_6 : decode prog_9_method_6_code 6 = .ok (.iadd, 1) := by decide +kernel
theorem dX7_after_7 : decode prog_9_method_6_code 7 = .ok (.istore_n 3, 1) := by decide +kernel
theorem dX7_after_8 : decode prog_9_method_6_code 8 = .ok (.aload_n 0, 1) := by decide +kernel
theorem dX7_after_9 : decode prog_9_method_6_code 9 = .ok (.getfield 19, 3) := by decide +kernel
theorem dX7_after_12 : decode prog_9_method_6_code 12 = .ok (.iload_n 3, 1) := by decide +kernel
theorem dX7_after_13 : decode prog_9_method_6_code 13 = .ok (.iaload, 1) := by decide +kernel
theorem dX7_after_14 : decode prog_9_method_6_code 14 = .ok (.bipush 13, 2) := by decide +kernel
theorem dX7_after_16 : decode prog_9_method_6_code 16 = .ok (.ishr, 1) := by decide +kernel
theorem dX7_after_17 : decode prog_9_method_6_code 17 = .ok (.aload_n 0, 1) := by decide +kernel
theorem dX7_after_18 : decode prog_9_method_6_code 18 = .ok (.getfield 23, 3) := by decide +kernel
theorem dX7_after_21 : decode prog_9_method_6_code 21 = .ok (.iload_n 1, 1) := by decide +kernel
theorem dX7_after_22 : decode prog_9_method_6_code 22 = .ok (.iaload, 1) := by decide +kernel
theorem dX7_after_23 : decode prog_9_method_6_code 23 = .ok (.if_icmp .eq 60, 3) := by decide +kernel
theorem dX7_after_26 : decode prog_9_method_6_code 26 = .ok (.aload_n 0, 1) := by decide +kernel
theorem dX7_after_27 : decode prog_9_method_6_code 27 = .ok (.getfield 48, 3) := by decide +kernel
theorem dX7_after_30 : decode prog_9_method_6_code 30 = .ok (.aload_n 0, 1) := by decide +kernel
theorem dX7_after_31 : decode prog_9_method_6_code 31 = .ok (.getfield 52, 3) := by decide +kernel
theorem dX7_after_34 : decode prog_9_method_6_code 34 = .ok (.aload_n 0, 1) := by decide +kernel
theorem dX7_after_35 : decode prog_9_method_6_code 35 = .ok (.getfield 14, 3) := by decide +kernel
theorem dX7_after_38 : decode prog_9_method_6_code 38 = .ok (.iload_n 1, 1) := by decide +kernel
theorem dX7_after_39 : decode prog_9_method_6_code 39 = .ok (.iload_n 2, 1) := by decide +kernel
theorem dX7_after_40 : decode prog_9_method_6_code 40 = .ok (.invokestatic 104, 3) := by decide +kernel
theorem dX7_after_43 : decode prog_9_method_6_code 43 = .ok (.iload_n 2, 1) := by decide +kernel
theorem dX7_after_44 : decode prog_9_method_6_code 44 = .ok (.invokestatic 108, 3) := by decide +kernel
theorem dX7_after_47 : decode prog_9_method_6_code 47 = .ok (.invokevirtual 111, 3) := by decide +kernel
theorem dX7_after_50 : decode prog_9_method_6_code 50 = .ok (.aload_n 0, 1) := by decide +kernel
theorem dX7_after_51 : decode prog_9_method_6_code 51 = .ok (.getfield 19, 3) := by decide +kernel
theorem dX7_after_54 : decode prog_9_method_6_code 54 = .ok (.iload_n 3, 1) := by decide +kernel
theorem dX7_after_55 : decode prog_9_method_6_code 55 = .ok (.aload_n 0, 1) := by decide +kernel
theorem dX7_after_56 : decode prog_9_method_6_code 56 = .ok (.getfield 23, 3) := by decide +kernel
theorem dX7_after_59 : decode prog_9_method_6_code 59 = .ok (.iload_n 1, 1) := by decide +kernel
theorem dX7_after_60 : decode prog_9_method_6_code 60 = .ok (.iaload, 1) := by decide +kernel
theorem dX7_after_61 : decode prog_9_method_6_code 61 = .ok (.bipush 13, 2) := by decide +kernel
theorem dX7_after_63 : decode prog_9_method_6_code 63 = .ok (.ishl, 1) := by decide +kernel
theorem dX7_after_64 : decode prog_9_method_6_code 64 = .ok (.aload_n 0, 1) := by decide +kernel
theorem dX7_after_65 : decode prog_9_method_6_code 65 = .ok (.getfield 48, 3) := by decide +kernel
theorem dX7_after_68 : decode prog_9_method_6_code 68 = .ok (.getfield 117, 3) := by decide +kernel
theorem dX7_after_71 : decode prog_9_method_6_code 71 = .ok (.aload_n 0, 1) := by decide +kernel
theorem dX7_after_72 : decode prog_9_method_6_code 72 = .ok (.getfield 48, 3) := by decide +kernel
theorem dX7_after_75 : decode prog_9_method_6_code 75 = .ok (.getfield 120, 3) := by decide +kernel
theorem dX7_after_78 : decode prog_9_method_6_code 78 = .ok (.invokestatic 89, 3) := by decide +kernel
theorem dX7_after_81 : decode prog_9_method_6_code 81 = .ok (.ior, 1) := by decide +kernel
theorem dX7_after_82 : decode prog_9_method_6_code 82 = .ok (.iastore, 1) := by decide +kernel
theorem dX7_after_83 : decode prog_9_method_6_code 83 = .ok (.aload_n 0, 1) := by decide +kernel
theorem dX7_after_84 : decode prog_9_method_6_code 84 = .ok (.getfield 19, 3) := by decide +kernel
theorem dX7_after_87 : decode prog_9_method_6_code 87 = .ok (.iload_n 3, 1) := by decide +kernel
theorem dX7_after_88 : decode prog_9_method_6_code 88 = .ok (.iaload, 1) := by decide +kernel
theorem dX7_after_89 : decode prog_9_method_6_code 89 = .ok (.sipush 8191, 3) := by decide +kernel
theorem dX7_after_92 : decode prog_9_method_6_code 92 = .ok (.iand, 1) := by decide +kernel
theorem dX7_after_93 : decode prog_9_method_6_code 93 = .ok (.ireturn, 1) := by decide +kernel
theorem rX7_after_0 {d : Nat} {h : Hp} {Q : Option PV → Hp → Prop} {st : List PV}{x0 : Option PV} {t : List (Option PV)} {v : Int} : WP d mX7_after 0 (x0 :: some (.inl v) :: t) st h Q = WP d mX7_after 1 (x0 :: some (.inl v) :: t) (.inl v :: st) h Q := WP_step dX7_after_0 rfl rfl rfl
theorem rX7_after_1 {d : Nat} {h : Hp} {Q : Option PV → Hp → Prop} {st : List PV}{ls : List (Option PV)} : WP d mX7_after 1 ls st h Q = WP d mX7_after 4 ls (.inl (6400) :: st) h Q := WP_step dX7_after_1 rfl rfl rfl
theorem rX7_after_4 {d : Nat} {h : Hp} {Q : Option PV → Hp → Prop} {st : List PV}{ls : List (Option PV)}{a b : Int} : WP d mX7_after 4 ls (.inl b :: .inl a :: st) h Q = WP d mX7_after 5 ls (.inl (w32 (a * b)) :: st) h Q := WP_step dX7_after_4 rfl rfl rfl
theorem rX7_after_5 {d : Nat} {h : Hp} {Q : Option PV → Hp → Prop} {st : List PV}{x0 x1 : Option PV} {t : List (Option PV)} {v : Int} : WP d mX7_after 5 (x0 :: x1 :: some (.inl v) :: t) st h Q = WP d mX7_after 6 (x0 :: x1 :: some (.inl v) :: t) (.inl v :: st) h Q := WP_step dX7_after_5 rfl rfl rfl
theorem rX7_after_6 {d : Nat} {h : Hp} {Q : Option PV → Hp → Prop} {st : List PV}{ls : List (Option PV)}{a b : Int} : WP d mX7_after 6 ls (.inl b :: .inl a :: st) h Q = WP d mX7_after 7 ls (.inl (w32 (a + b)) :: st) h Q := WP_step dX7_after_6 rfl rfl rfl
theorem rX7_after_7 {d : Nat} {h : Hp} {Q : Option PV → Hp → Prop} {st : List PV}{x0 x1 x2 x3 : Option PV} {v : Int} : WP d mX7_after 7 [x0, x1, x2, x3] (.inl v :: st) h Q = WP d mX7_after 8 [x0, x1, x2, some (.inl v)] st h Q := WP_step dX7_after_7 rfl rfl rfl
theorem rX7_after_8 {d : Nat} {h : Hp} {Q : Option PV → Hp → Prop} {st : List PV}{t : List (Option PV)} {v : Nat} : WP d mX7_after 8 (some (.inr (.inr v)) :: t) st h Q = WP d mX7_after 9 (some (.inr (.inr v)) :: t) (.inr (.inr v) :: st) h Q := WP_step dX7_after_8 rfl rfl rfl
theorem rX7_after_9 {d : Nat} {h : Hp} {Q : Option PV → Hp → Prop} {st : List PV}{ls : List (Option PV)}{a : Nat} : WP d mX7_after 9 ls (.inr (.inr a) :: st) h Q = ((hK h a).1 = 7 ∧ WP d mX7_after 12 ls (.inr (.inr (hR h a 2)) :: st) h Q) := R_get2 dX7_after_9 rfl
theorem rX7_after_12 {d : Nat} {h : Hp} {Q : Option PV → Hp → Prop} {st : List PV}{x0 x1 x2 : Option PV} {t : List (Option PV)} {v : Int} : WP d mX7_after 12 (x0 :: x1 :: x2 :: some (.inl v) :: t) st h Q = WP d mX7_after 13 (x0 :: x1 :: x2 :: some (.inl v) :: t) (.inl v :: st) h Q := WP_step dX7_after_12 rfl rfl rfl
theorem rX7_after_13 {d : Nat} {h : Hp} {Q : Option PV → Hp → Prop} {st : List PV}{ls : List (Option PV)}{a : Nat} {z : Int} : WP d mX7_after 13 ls (.inl z :: .inr (.inr a) :: st) h Q = ((hK h a).1 = 21 ∧ 0 ≤ z ∧ z < (hK h a).2 ∧ WP d mX7_after 14 ls (.inl (hI h a z.toNat) :: st) h Q) := R_iald dX7_after_13
theorem rX7_after_14 {d : Nat} {h : Hp} {Q : Option PV → Hp → Prop} {st : List PV}{ls : List (Option PV)} : WP d mX7_after 14 ls st h Q = WP d mX7_after 16 ls (.inl (13) :: st) h Q := WP_step dX7_after_14 rfl rfl rfl
theorem rX7_after_16 {d : Nat} {h : Hp} {Q : Option PV → Hp → Prop} {st : List PV}{ls : List (Option PV)}{a b : Int} : WP d mX7_after 16 ls (.inl b :: .inl a :: st) h Q = WP d mX7_after 17 ls (.inl (ishr a b) :: st) h Q := WP_step dX7_after_16 rfl rfl rfl
theorem rX7_after_17 {d : Nat} {h : Hp} {Q : Option PV → Hp → Prop} {st : List PV}{t : List (Option PV)} {v : Nat} : WP d mX7_after 17 (some (.inr (.inr v)) :: t) st h Q = WP d mX7_after 18 (some (.inr (.inr v)) :: t) (.inr (.inr v) :: st) h Q := WP_step dX7_after_17 rfl rfl rfl
theorem rX7_after_18 {d : Nat} {h : Hp} {Q : Option PV → Hp → Prop} {st : List PV}{ls : List (Option PV)}{a : Nat} : WP d mX7_after 18 ls (.inr (.inr a) :: st) h Q = ((hK h a).1 = 7 ∧ WP d mX7_after 21 ls (.inr (.inr (hR h a 3)) :: st) h Q) := R_get2 dX7_after_18 rfl
theorem rX7_after_21 {d : Nat} {h : Hp} {Q : Option PV → Hp → Prop} {st : List PV}{x0 : Option PV} {t : List (Option PV)} {v : Int} : WP d mX7_after 21 (x0 :: some (.inl v) :: t) st h Q = WP d mX7_after 22 (x0 :: some (.inl v) :: t) (.inl v :: st) h Q := WP_step dX7_after_21 rfl rfl rfl
theorem rX7_after_22 {d : Nat} {h : Hp} {Q : Option PV → Hp → Prop} {st : List PV}{ls : List (Option PV)}{a : Nat} {z : Int} : WP d mX7_after 22 ls (.inl z :: .inr (.inr a) :: st) h Q = ((hK h a).1 = 21 ∧ 0 ≤ z ∧ z < (hK h a).2 ∧ WP d mX7_after 23 ls (.inl (hI h a z.toNat) :: st) h Q) := R_iald dX7_after_22
theorem rX7_after_23 {d : Nat} {h : Hp} {Q : Option PV → Hp → Prop} {st : List PV}{ls : List (Option PV)}{a b : Int} : WP d mX7_after 23 ls (.inl b :: .inl a :: st) h Q = (if a = b then WP d mX7_after 83 ls st h Q else WP d mX7_after 26 ls st h Q) := R_icmp_eq dX7_after_23 (by decide)
theorem rX7_after_26 {d : Nat} {h : Hp} {Q : Option PV → Hp → Prop} {st : List PV}{t : List (Option PV)} {v : Nat} : WP d mX7_after 26 (some (.inr (.inr v)) :: t) st h Q = WP d mX7_after 27 (some (.inr (.inr v)) :: t) (.inr (.inr v) :: st) h Q := WP_step dX7_after_26 rfl rfl rfl
theorem rX7_after_27 {d : Nat} {h : Hp} {Q : Option PV → Hp → Prop} {st : List PV}{ls : List (Option PV)}{a : Nat} : WP d mX7_after 27 ls (.inr (.inr a) :: st) h Q = ((hK h a).1 = 7 ∧ WP d mX7_after 30 ls (.inr (.inr (hR h a 0)) :: st) h Q) := R_get2 dX7_after_27 rfl
theorem rX7_after_30 {d : Nat} {h : Hp} {Q : Option PV → Hp → Prop} {st : List PV}{t : List (Option PV)} {v : Nat} : WP d mX7_after 30 (some (.inr (.inr v)) :: t) st h Q = WP d mX7_after 31 (some (.inr (.inr v)) :: t) (.inr (.inr v) :: st) h Q := WP_step dX7_after_30 rfl rfl rfl
theorem rX7_after_31 {d : Nat} {h : Hp} {Q : Option PV → Hp → Prop} {st : List PV}{ls : List (Option PV)}{a : Nat} : WP d mX7_after 31 ls (.inr (.inr a) :: st) h Q = ((hK h a).1 = 7 ∧ WP d mX7_after 34 ls (.inr (.inr (hR h a 10)) :: st) h Q) := R_get2 dX7_after_31 rfl
theorem rX7_after_34 {d : Nat} {h : Hp} {Q : Option PV → Hp → Prop} {st : List PV}{t : List (Option PV)} {v : Nat} : WP d mX7_after 34 (some (.inr (.inr v)) :: t) st h Q = WP d mX7_after 35 (some (.inr (.inr v)) :: t) (.inr (.inr v) :: st) h Q := WP_step dX7_after_34 rfl rfl rfl
theorem rX7_after_35 {d : Nat} {h : Hp} {Q : Option PV → Hp → Prop} {st : List PV}{ls : List (Option PV)}{a : Nat} : WP d mX7_after 35 ls (.inr (.inr a) :: st) h Q = ((hK h a).1 = 7 ∧ WP d mX7_after 38 ls (.inr (.inr (hR h a 1)) :: st) h Q) := R_get2 dX7_after_35 rfl
theorem rX7_after_38 {d : Nat} {h : Hp} {Q : Option PV → Hp → Prop} {st : List PV}{x0 : Option PV} {t : List (Option PV)} {v : Int} : WP d mX7_after 38 (x0 :: some (.inl v) :: t) st h Q = WP d mX7_after 39 (x0 :: some (.inl v) :: t) (.inl v :: st) h Q := WP_step dX7_after_38 rfl rfl rfl
theorem rX7_after_39 {d : Nat} {h : Hp} {Q : Option PV → Hp → Prop} {st : List PV}{x0 x1 : Option PV} {t : List (Option PV)} {v : Int} : WP d mX7_after 39 (x0 :: x1 :: some (.inl v) :: t) st h Q = WP d mX7_after 40 (x0 :: x1 :: some (.inl v) :: t) (.inl v :: st) h Q := WP_step dX7_after_39 rfl rfl rfl
theorem rX7_after_40 {d : Nat} {h : Hp} {Q : Option PV → Hp → Prop} {ls : List (Option PV)}{r0 r1 r2 r3 : PV}{v0 : Int} : WP (d + 1) mX7_after 40 ls (.inl v0 :: [r0, r1, r2, r3]) h Q = WP d mX11_boardOf 0 [some (.inl v0)] [] h (fun r h' => WP (d + 1) mX7_after 43 ls (psh r [r0, r1, r2, r3]) h' Q) := R_callS (st := .inl v0 :: [r0, r1, r2, r3]) (M := mX7_after) (pc := 40) (kd := 5) (n := 1) (M' := mX11_boardOf) (as := [.inl v0]) (rest := [r0, r1, r2, r3]) (en := [some (.inl v0)]) dX7_after_40 rfl (Or.inr rfl) (Nat.le_of_ble_eq_true rfl) rfl (Nat.le_of_ble_eq_true rfl) rfl rfl rfl
theorem rX7_after_43 {d : Nat} {h : Hp} {Q : Option PV → Hp → Prop} {st : List PV}{x0 x1 : Option PV} {t : List (Option PV)} {v : Int} : WP d mX7_after 43 (x0 :: x1 :: some (.inl v) :: t) st h Q = WP d mX7_after 44 (x0 :: x1 :: some (.inl v) :: t) (.inl v :: st) h Q := WP_step dX7_after_43 rfl rfl rfl
theorem rX7_after_44 {d : Nat} {h : Hp} {Q : Option PV → Hp → Prop} {ls : List (Option PV)}{r0 : Int} {r1 : Int} {r2 : Nat} {r3 : Nat} {r4 : Nat}{v0 : Int} : WP (d + 1) mX7_after 44 ls (.inl v0 :: [.inl r0, .inl r1, .inr (.inr r2), .inr (.inr r3), .inr (.inr r4)]) h Q = WP d mX11_thingsOf 0 [some (.inl v0)] [] h (fun r h' => WP (d + 1) mX7_after 47 ls (psh r [.inl r0, .inl r1, .inr (.inr r2), .inr (.inr r3), .inr (.inr r4)]) h' Q) := R_callS (st := .inl v0 :: [.inl r0, .inl r1, .inr (.inr r2), .inr (.inr r3), .inr (.inr r4)]) (M := mX7_after) (pc := 44) (kd := 5) (n := 1) (M' := mX11_thingsOf) (as := [.inl v0]) (rest := [.inl r0, .inl r1, .inr (.inr r2), .inr (.inr r3), .inr (.inr r4)]) (en := [some (.inl v0)]) dX7_after_44 rfl (Or.inr rfl) (Nat.le_of_ble_eq_true rfl) rfl (Nat.le_of_ble_eq_true rfl) rfl rfl rfl
theorem rX7_after_47 {d : Nat} {h : Hp} {Q : Option PV → Hp → Prop} {ls : List (Option PV)}{v0 : Nat} {v1 : Nat} {v2 : Nat} {v3 : Int} {v4 : Int} {v5 : Int} : WP (d + 1) mX7_after 47 ls (.inl v5 :: .inl v4 :: .inl v3 :: .inr (.inr v2) :: .inr (.inr v1) :: .inr (.inr v0) :: []) h Q = ((hK h v0).1 = 0 ∧ WP d mX0_look 0 [some (.inr (.inr v0)), some (.inr (.inr v1)), some (.inr (.inr v2)), some (.inl v3), some (.inl v4), some (.inl v5), none] [] h (fun r h' => WP (d + 1) mX7_after 50 ls (psh r []) h' Q)) := R_callV (st := .inl v5 :: .inl v4 :: .inl v3 :: .inr (.inr v2) :: .inr (.inr v1) :: .inr (.inr v0) :: []) (M := mX7_after) (pc := 47) (kd := 0) (n := 6) (M' := mX0_look) (as := [.inl v5, .inl v4, .inl v3, .inr (.inr v2), .inr (.inr v1), .inr (.inr v0)]) (rest := []) (en := [some (.inr (.inr v0)), some (.inr (.inr v1)), some (.inr (.inr v2)), some (.inl v3), some (.inl v4), some (.inl v5), none]) dX7_after_47 rfl (Nat.le_of_ble_eq_true rfl) (Nat.le_of_ble_eq_true rfl) rfl rfl (Nat.le_of_ble_eq_true rfl) rfl rfl rfl
theorem rX7_after_50 {d : Nat} {h : Hp} {Q : Option PV → Hp → Prop} {st : List PV}{t : List (Option PV)} {v : Nat} : WP d mX7_after 50 (some (.inr (.inr v)) :: t) st h Q = WP d mX7_after 51 (some (.inr (.inr v)) :: t) (.inr (.inr v) :: st) h Q := WP_step dX7_after_50 rfl rfl rfl
theorem rX7_after_51 {d : Nat} {h : Hp} {Q : Option PV → Hp → Prop} {st : List PV}{ls : List (Option PV)}{a : Nat} : WP d mX7_after 51 ls (.inr (.inr a) :: st) h Q = ((hK h a).1 = 7 ∧ WP d mX7_after 54 ls (.inr (.inr (hR h a 2)) :: st) h Q) := R_get2 dX7_after_51 rfl
theorem rX7_after_54 {d : Nat} {h : Hp} {Q : Option PV → Hp → Prop} {st : List PV}{x0 x1 x2 : Option PV} {t : List (Option PV)} {v : Int} : WP d mX7_after 54 (x0 :: x1 :: x2 :: some (.inl v) :: t) st h Q = WP d mX7_after 55 (x0 :: x1 :: x2 :: some (.inl v) :: t) (.inl v :: st) h Q := WP_step dX7_after_54 rfl rfl rfl
theorem rX7_after_55 {d : Nat} {h : Hp} {Q : Option PV → Hp → Prop} {st : List PV}{t : List (Option PV)} {v : Nat} : WP d mX7_after 55 (some (.inr (.inr v)) :: t) st h Q = WP d mX7_after 56 (some (.inr (.inr v)) :: t) (.inr (.inr v) :: st) h Q := WP_step dX7_after_55 rfl rfl rfl
theorem rX7_after_56 {d : Nat} {h : Hp} {Q : Option PV → Hp → Prop} {st : List PV}{ls : List (Option PV)}{a : Nat} : WP d mX7_after 56 ls (.inr (.inr a) :: st) h Q = ((hK h a).1 = 7 ∧ WP d mX7_after 59 ls (.inr (.inr (hR h a 3)) :: st) h Q) := R_get2 dX7_after_56 rfl
theorem rX7_after_59 {d : Nat} {h : Hp} {Q : Option PV → Hp → Prop} {st : List PV}{x0 : Option PV} {t : List (Option PV)} {v : Int} : WP d mX7_after 59 (x0 :: some (.inl v) :: t) st h Q = WP d mX7_after 60 (x0 :: some (.inl v) :: t) (.inl v :: st) h Q := WP_step dX7_after_59 rfl rfl rfl
theorem rX7_after_60 {d : Nat} {h : Hp} {Q : Option PV → Hp → Prop} {st : List PV}{ls : List (Option PV)}{a : Nat} {z : Int} : WP d mX7_after 60 ls (.inl z :: .inr (.inr a) :: st) h Q = ((hK h a).1 = 21 ∧ 0 ≤ z ∧ z < (hK h a).2 ∧ WP d mX7_after 61 ls (.inl (hI h a z.toNat) :: st) h Q) := R_iald dX7_after_60
theorem rX7_after_61 {d : Nat} {h : Hp} {Q : Option PV → Hp → Prop} {st : List PV}{ls : List (Option PV)} : WP d mX7_after 61 ls st h Q = WP d mX7_after 63 ls (.inl (13) :: st) h Q := WP_step dX7_after_61 rfl rfl rfl
theorem rX7_after_63 {d : Nat} {h : Hp} {Q : Option PV → Hp → Prop} {st : List PV}{ls : List (Option PV)}{a b : Int} : WP d mX7_after 63 ls (.inl b :: .inl a :: st) h Q = WP d mX7_after 64 ls (.inl (ishl a b) :: st) h Q := WP_step dX7_after_63 rfl rfl rfl
theorem rX7_after_64 {d : Nat} {h : Hp} {Q : Option PV → Hp → Prop} {st : List PV}{t : List (Option PV)} {v : Nat} : WP d mX7_after 64 (some (.inr (.inr v)) :: t) st h Q = WP d mX7_after 65 (some (.inr (.inr v)) :: t) (.inr (.inr v) :: st) h Q := WP_step dX7_after_64 rfl rfl rfl
theorem rX7_after_65 {d : Nat} {h : Hp} {Q : Option PV → Hp → Prop} {st : List PV}{ls : List (Option PV)}{a : Nat} : WP d mX7_after 65 ls (.inr (.inr a) :: st) h Q = ((hK h a).1 = 7 ∧ WP d mX7_after 68 ls (.inr (.inr (hR h a 0)) :: st) h Q) := R_get2 dX7_after_65 rfl
theorem rX7_after_68 {d : Nat} {h : Hp} {Q : Option PV → Hp → Prop} {st : List PV}{ls : List (Option PV)}{a : Nat} : WP d mX7_after 68 ls (.inr (.inr a) :: st) h Q = ((hK h a).1 = 0 ∧ WP d mX7_after 71 ls (.inl (hI h a 5) :: st) h Q) := R_get0 dX7_after_68 rfl
theorem rX7_after_71 {d : Nat} {h : Hp} {Q : Option PV → Hp → Prop} {st : List PV}{t : List (Option PV)} {v : Nat} : WP d mX7_after 71 (some (.inr (.inr v)) :: t) st h Q = WP d mX7_after 72 (some (.inr (.inr v)) :: t) (.inr (.inr v) :: st) h Q := WP_step dX7_after_71 rfl rfl rfl
theorem rX7_after_72 {d : Nat} {h : Hp} {Q : Option PV → Hp → Prop} {st : List PV}{ls : List (Option PV)}{a : Nat} : WP d mX7_after 72 ls (.inr (.inr a) :: st) h Q = ((hK h a).1 = 7 ∧ WP d mX7_after 75 ls (.inr (.inr (hR h a 0)) :: st) h Q) := R_get2 dX7_after_72 rfl
theorem rX7_after_75 {d : Nat} {h : Hp} {Q : Option PV → Hp → Prop} {st : List PV}{ls : List (Option PV)}{a : Nat} : WP d mX7_after 75 ls (.inr (.inr a) :: st) h Q = ((hK h a).1 = 0 ∧ WP d mX7_after 78 ls (.inl (hI h a 4) :: st) h Q) := R_get0 dX7_after_75 rfl
theorem rX7_after_78 {d : Nat} {h : Hp} {Q : Option PV → Hp → Prop} {ls : List (Option PV)}{r0 r1 r2 : PV}{v0 : Int} {v1 : Int} : WP (d + 1) mX7_after 78 ls (.inl v1 :: .inl v0 :: [r0, r1, r2]) h Q = WP d mX11_stateOf 0 [some (.inl v0), some (.inl v1)] [] h (fun r h' => WP (d + 1) mX7_after 81 ls (psh r [r0, r1, r2]) h' Q) := R_callS (st := .inl v1 :: .inl v0 :: [r0, r1, r2]) (M := mX7_after) (pc := 78) (kd := 5) (n := 2) (M' := mX11_stateOf) (as := [.inl v1, .inl v0]) (rest := [r0, r1, r2]) (en := [some (.inl v0), some (.inl v1)]) dX7_after_78 rfl (Or.inr rfl) (Nat.le_of_ble_eq_true rfl) rfl (Nat.le_of_ble_eq_true rfl) rfl rfl rfl
theorem rX7_after_81 {d : Nat} {h : Hp} {Q : Option PV → Hp → Prop} {st : List PV}{ls : List (Option PV)}{a b : Int} : WP d mX7_after 81 ls (.inl b :: .inl a :: st) h Q = WP d mX7_after 82 ls (.inl (ior a b) :: st) h Q := WP_step dX7_after_81 rfl rfl rfl
theorem rX7_after_82 {d : Nat} {h : Hp} {Q : Option PV → Hp → Prop} {st : List PV}{ls : List (Option PV)}{a : Nat} {z v : Int} : WP d mX7_after 82 ls (.inl v :: .inl z :: .inr (.inr a) :: st) h Q = (200 ≤ a ∧ (hK h a).1 = 21 ∧ 0 ≤ z ∧ z < (hK h a).2 ∧ WP d mX7_after 83 ls st (wI h a z.toNat v) Q) := R_iast dX7_after_82
theorem rX7_after_83 {d : Nat} {h : Hp} {Q : Option PV → Hp → Prop} {st : List PV}{t : List (Option PV)} {v : Nat} : WP d mX7_after 83 (some (.inr (.inr v)) :: t) st h Q = WP d mX7_after 84 (some (.inr (.inr v)) :: t) (.inr (.inr v) :: st) h Q := WP_step dX7_after_83 rfl rfl rfl
theorem rX7_after_84 {d : Nat} {h : Hp} {Q : Option PV → Hp → Prop} {st : List PV}{ls : List (Option PV)}{a : Nat} : WP d mX7_after 84 ls (.inr (.inr a) :: st) h Q = ((hK h a).1 = 7 ∧ WP d mX7_after 87 ls (.inr (.inr (hR h a 2)) :: st) h Q) := R_get2 dX7_after_84 rfl
theorem rX7_after_87 {d : Nat} {h : Hp} {Q : Option PV → Hp → Prop} {st : List PV}{x0 x1 x2 : Option PV} {t : List (Option PV)} {v : Int} : WP d mX7_after 87 (x0 :: x1 :: x2 :: some (.inl v) :: t) st h Q = WP d mX7_after 88 (x0 :: x1 :: x2 :: some (.inl v) :: t) (.inl v :: st) h Q := WP_step dX7_after_87 rfl rfl rfl
theorem rX7_after_88 {d : Nat} {h : Hp} {Q : Option PV → Hp → Prop} {st : List PV}{ls : List (Option PV)}{a : Nat} {z : Int} : WP d mX7_after 88 ls (.inl z :: .inr (.inr a) :: st) h Q = ((hK h a).1 = 21 ∧ 0 ≤ z ∧ z < (hK h a).2 ∧ WP d mX7_after 89 ls (.inl (hI h a z.toNat) :: st) h Q) := R_iald dX7_after_88
theorem rX7_after_89 {d : Nat} {h : Hp} {Q : Option PV → Hp → Prop} {st : List PV}{ls : List (Option PV)} : WP d mX7_after 89 ls st h Q = WP d mX7_after 92 ls (.inl (8191) :: st) h Q := WP_step dX7_after_89 rfl rfl rfl
theorem rX7_after_92 {d : Nat} {h : Hp} {Q : Option PV → Hp → Prop} {st : List PV}{ls : List (Option PV)}{a b : Int} : WP d mX7_after 92 ls (.inl b :: .inl a :: st) h Q = WP d mX7_after 93 ls (.inl (iand a b) :: st) h Q := WP_step dX7_after_92 rfl rfl rfl
theorem rX7_after_93 {d : Nat} {h : Hp} {Q : Option PV → Hp → Prop} {ls : List (Option PV)}{z : Int} : WP d mX7_after 93 ls [.inl z] h Q = Q (some (.inl z)) h := R_iret dX7_after_93 rfl
theorem dX7_placeAfter_0 : decode prog_9_method_7_code 0 = .ok (.aload_n 0, 1) := by decide +kernel
theorem dX7_placeAfter_1 : decode prog_9_method_7_code 1 = .ok (.getfield 29, 3) := by decide +kernel
theorem dX7_placeAfter_4 : decode prog_9_method_7_code 4 = .ok (.aload_n 0, 1) := by decide +kernel
theorem dX7_placeAfter_5 : decode prog_9_method_7_code 5 = .ok (.getfield 19, 3) := by decide +kernel
theorem dX7_placeAfter_8 : decode prog_9_method_7_code 8 = .ok (.iload_n 1, 1) := by decide +kernel
theorem dX7_placeAfter_9 : decode prog_9_method_7_code 9 = .ok (.sipush 6400, 3) := by decide +kernel
theorem dX7_placeAfter_12 : decode prog_9_method_7_code 12 = .ok (.imul, 1) := by decide +kernel
theorem dX7_placeAfter_13 : decode prog_9_method_7_code 13 = .ok (.aload_n 0, 1) := by decide +kernel
theorem dX7_placeAfter_14 : decode prog_9_method_7_code 14 = .ok (.getfield 26, 3) := by decide +kernel
theorem dX7_placeAfter_17 : decode prog_9_method_7_code 17 = .ok (.iload_n 2, 1) := by decide +kernel
theorem dX7_placeAfter_18 : decode prog_9_method_7_code 18 = .ok (.iaload, 1) := by decide +kernel
theorem dX7_placeAfter_19 : decode prog_9_method_7_code 19 = .ok (.iadd, 1) := by decide +kernel
theorem dX7_placeAfter_20 : decode prog_9_method_7_code 20 = .ok (.iaload, 1) := by decide +kernel
theorem dX7_placeAfter_21 : decode prog_9_method_7_code 21 = .ok (.sipush 8191, 3) := by decide +kernel
theorem dX7_placeAfter_24 : decode prog_9_method_7_code 24 = .ok (.iand, 1) := by decide +kernel
theorem dX7_placeAfter_25 : decode prog_9_method_7_code 25 = .ok (.iaload, 1) := by decide +kernel
theorem dX7_placeAfter_26 : decode prog_9_method_7_code 26 = .ok (.ireturn, 1) := by decide +kernel
theorem rX7_placeAfter_0 {d : Nat} {h : Hp} {Q : Option PV → Hp → Prop} {st : List PV}{t : List (Option PV)} {v : Nat} : WP d mX7_placeAfter 0 (some (.inr (.inr v)) :: t) st h Q = WP d mX7_placeAfter 1 (some (.inr (.inr v)) :: t) (.inr (.inr v) :: st) h Q := WP_step dX7_placeAfter_0 rfl rfl rfl
theorem rX7_placeAfter_1 {d : Nat} {h : Hp} {Q : Option PV → Hp → Prop} {st : List PV}{ls : List (Option PV)}{a : Nat} : WP d mX7_placeAfter 1 ls (.inr (.inr a) :: st) h Q = ((hK h a).1 = 7 ∧ WP d mX7_placeAfter 4 ls (.inr (.inr (hR h a 5)) :: st) h Q) := R_get2 dX7_placeAfter_1 rfl
theorem rX7_placeAfter_4 {d : Nat} {h : Hp} {Q : Option PV → Hp → Prop} {st : List PV}{t : List (Option PV)} {v : Nat} : WP d mX7_placeAfter 4 (some (.inr (.inr v)) :: t) st h Q = WP d mX7_placeAfter 5 (some (.inr (.inr v)) :: t) (.inr (.inr v) :: st) h Q := WP_step dX7_placeAfter_4 rfl rfl rfl
theorem rX7_placeAfter_5 {d : Nat} {h : Hp} {Q : Option PV → Hp → Prop} {st : List PV}{ls : List (Option PV)}{a : Nat} : WP d mX7_placeAfter 5 ls (.inr (.inr a) :: st) h Q = ((hK h a).1 = 7 ∧ WP d mX7_placeAfter 8 ls (.inr (.inr (hR h a 2)) :: st) h Q) := R_get2 dX7_placeAfter_5 rfl
theorem rX7_placeAfter_8 {d : Nat} {h : Hp} {Q : Option PV → Hp → Prop} {st : List PV}{x0 : Option PV} {t : List (Option PV)} {v : Int} : WP d mX7_placeAfter 8 (x0 :: some (.inl v) :: t) st h Q = WP d mX7_placeAfter 9 (x0 :: some (.inl v) :: t) (.inl v :: st) h Q := WP_step dX7_placeAfter_8 rfl rfl rfl
theorem rX7_placeAfter_9 {d : Nat} {h : Hp} {Q : Option PV → Hp → Prop} {st : List PV}{ls : List (Option PV)} : WP d mX7_placeAfter 9 ls st h Q = WP d mX7_placeAfter 12 ls (.inl (6400) :: st) h Q := WP_step dX7_placeAfter_9 rfl rfl rfl
theorem rX7_placeAfter_12 {d : Nat} {h : Hp} {Q : Option PV → Hp → Prop} {st : List PV}{ls : List (Option PV)}{a b : Int} : WP d mX7_placeAfter 12 ls (.inl b :: .inl a :: st) h Q = WP d mX7_placeAfter 13 ls (.inl (w32 (a * b)) :: st) h Q := WP_step dX7_placeAfter_12 rfl rfl rfl
theorem rX7_placeAfter_13 {d : Nat} {h : Hp} {Q : Option PV → Hp → Prop} {st : List PV}{t : List (Option PV)} {v : Nat} : WP d mX7_placeAfter 13 (some (.inr (.inr v)) :: t) st h Q = WP d mX7_placeAfter 14 (some (.inr (.inr v)) :: t) (.inr (.inr v) :: st) h Q := WP_step dX7_placeAfter_13 rfl rfl rfl
theorem rX7_placeAfter_14 {d : Nat} {h : Hp} {Q : Option PV → Hp → Prop} {st : List PV}{ls : List (Option PV)}{a : Nat} : WP d mX7_placeAfter 14 ls (.inr (.inr a) :: st) h Q = ((hK h a).1 = 7 ∧ WP d mX7_placeAfter 17 ls (.inr (.inr (hR h a 4)) :: st) h Q) := R_get2 dX7_placeAfter_14 rfl
theorem rX7_placeAfter_17 {d : Nat} {h : Hp} {Q : Option PV → Hp → Prop} {st : List PV}{x0 x1 : Option PV} {t : List (Option PV)} {v : Int} : WP d mX7_placeAfter 17 (x0 :: x1 :: some (.inl v) :: t) st h Q = WP d mX7_placeAfter 18 (x0 :: x1 :: some (.inl v) :: t) (.inl v :: st) h Q := WP_step dX7_placeAfter_17 rfl rfl rfl
theorem rX7_placeAfter_18 {d : Nat} {h : Hp} {Q : Option PV → Hp → Prop} {st : List PV}{ls : List (Option PV)}{a : Nat} {z : Int} : WP d mX7_placeAfter 18 ls (.inl z :: .inr (.inr a) :: st) h Q = ((hK h a).1 = 21 ∧ 0 ≤ z ∧ z < (hK h a).2 ∧ WP d mX7_placeAfter 19 ls (.inl (hI h a z.toNat) :: st) h Q) := R_iald dX7_placeAfter_18
theorem rX7_placeAfter_19 {d : Nat} {h : Hp} {Q : Option PV → Hp → Prop} {st : List PV}{ls : List (Option PV)}{a b : Int} : WP d mX7_placeAfter 19 ls (.inl b :: .inl a :: st) h Q = WP d mX7_placeAfter 20 ls (.inl (w32 (a + b)) :: st) h Q := WP_step dX7_placeAfter_19 rfl rfl rfl
theorem rX7_placeAfter_20 {d : Nat} {h : Hp} {Q : Option PV → Hp → Prop} {st : List PV}{ls : List (Option PV)}{a : Nat} {z : Int} : WP d mX7_placeAfter 20 ls (.inl z :: .inr (.inr a) :: st) h Q = ((hK h a).1 = 21 ∧ 0 ≤ z ∧ z < (hK h a).2 ∧ WP d mX7_placeAfter 21 ls (.inl (hI h a z.toNat) :: st) h Q) := R_iald dX7_placeAfter_20
theorem rX7_placeAfter_21 {d : Nat} {h : Hp} {Q : Option PV → Hp → Prop} {st : List PV}{ls : List (Option PV)} : WP d mX7_placeAfter 21 ls st h Q = WP d mX7_placeAfter 24 ls (.inl (8191) :: st) h Q := WP_step dX7_placeAfter_21 rfl rfl rfl
theorem rX7_placeAfter_24 {d : Nat} {h : Hp} {Q : Option PV → Hp → Prop} {st : List PV}{ls : List (Option PV)}{a b : Int} : WP d mX7_placeAfter 24 ls (.inl b :: .inl a :: st) h Q = WP d mX7_placeAfter 25 ls (.inl (iand a b) :: st) h Q := WP_step dX7_placeAfter_24 rfl rfl rfl
theorem rX7_placeAfter_25 {d : Nat} {h : Hp} {Q : Option PV → Hp → Prop} {st : List PV}{ls : List (Option PV)}{a : Nat} {z : Int} : WP d mX7_placeAfter 25 ls (.inl z :: .inr (.inr a) :: st) h Q = ((hK h a).1 = 21 ∧ 0 ≤ z ∧ z < (hK h a).2 ∧ WP d mX7_placeAfter 26 ls (.inl (hI h a z.toNat) :: st) h Q) := R_iald dX7_placeAfter_25
theorem rX7_placeAfter_26 {d : Nat} {h : Hp} {Q : Option PV → Hp → Prop} {ls : List (Option PV)}{z : Int} : WP d mX7_placeAfter 26 ls [.inl z] h Q = Q (some (.inl z)) h := R_iret dX7_placeAfter_26 rfl
theorem dX7_boardAt_0 : decode prog_9_method_8_code 0 = .ok (.aload_n 0, 1) := by decide +kernel
theorem dX7_boardAt_1 : decode prog_9_method_8_code 1 = .ok (.getfield 26, 3) := by decide +kernel
theorem dX7_boardAt_4 : decode prog_9_method_8_code 4 = .ok (.iload_n 1, 1) := by decide +kernel
theorem dX7_boardAt_5 : decode prog_9_method_8_code 5 = .ok (.iaload, 1) := by decide +kernel
theorem dX7_boardAt_6 : decode prog_9_method_8_code 6 = .ok (.invokestatic 104, 3) := by decide +kernel
theorem dX7_boardAt_9 : decode prog_9_method_8_code 9 = .ok (.ireturn, 1) := by decide +kernel
theorem rX7_boardAt_0 {d : Nat} {h : Hp} {Q : Option PV → Hp → Prop} {st : List PV}{t : List (Option PV)} {v : Nat} : WP d mX7_boardAt 0 (some (.inr (.inr v)) :: t) st h Q = WP d mX7_boardAt 1 (some (.inr (.inr v)) :: t) (.inr (.inr v) :: st) h Q := WP_step dX7_boardAt_0 rfl rfl rfl
theorem rX7_boardAt_1 {d : Nat} {h : Hp} {Q : Option PV → Hp → Prop} {st : List PV}{ls : List (Option PV)}{a : Nat} : WP d mX7_boardAt 1 ls (.inr (.inr a) :: st) h Q = ((hK h a).1 = 7 ∧ WP d mX7_boardAt 4 ls (.inr (.inr (hR h a 4)) :: st) h Q) := R_get2 dX7_boardAt_1 rfl
theorem rX7_boardAt_4 {d : Nat} {h : Hp} {Q : Option PV → Hp → Prop} {st : List PV}{x0 : Option PV} {t : List (Option PV)} {v : Int} : WP d mX7_boardAt 4 (x0 :: some (.inl v) :: t) st h Q = WP d mX7_boardAt 5 (x0 :: some (.inl v) :: t) (.inl v :: st) h Q := WP_step dX7_boardAt_4 rfl rfl rfl
theorem rX7_boardAt_5 {d : Nat} {h : Hp} {Q : Option PV → Hp → Prop} {st : List PV}{ls : List (Option PV)}{a : Nat} {z : Int} : WP d mX7_boardAt 5 ls (.inl z :: .inr (.inr a) :: st) h Q = ((hK h a).1 = 21 ∧ 0 ≤ z ∧ z < (hK h a).2 ∧ WP d mX7_boardAt 6 ls (.inl (hI h a z.toNat) :: st) h Q) := R_iald dX7_boardAt_5
theorem rX7_boardAt_6 {d : Nat} {h : Hp} {Q : Option PV → Hp → Prop} {ls : List (Option PV)}{v0 : Int} : WP (d + 1) mX7_boardAt 6 ls (.inl v0 :: []) h Q = WP d mX11_boardOf 0 [some (.inl v0)] [] h (fun r h' => WP (d + 1) mX7_boardAt 9 ls (psh r []) h' Q) := R_callS (st := .inl v0 :: []) (M := mX7_boardAt) (pc := 6) (kd := 5) (n := 1) (M' := mX11_boardOf) (as := [.inl v0]) (rest := []) (en := [some (.inl v0)]) dX7_boardAt_6 rfl (Or.inr rfl) (Nat.le_of_ble_eq_true rfl) rfl (Nat.le_of_ble_eq_true rfl) rfl rfl rfl
theorem rX7_boardAt_9 {d : Nat} {h : Hp} {Q : Option PV → Hp → Prop} {ls : List (Option PV)}{z : Int} : WP d mX7_boardAt 9 ls [.inl z] h Q = Q (some (.inl z)) h := R_iret dX7_boardAt_9 rfl
theorem dX7_thingsAt_0 : decode prog_9_method_9_code 0 = .ok (.aload_n 0, 1) := by decide +kernel
theorem dX7_thingsAt_1 : decode prog_9_method_9_code 1 = .ok (.getfield 26, 3) := by decide +kernel
theorem dX7_thingsAt_4 : decode prog_9_method_9_code 4 = .ok (.iload_n 1, 1) := by decide +kernel
theorem dX7_thingsAt_5 : decode prog_9_method_9_code 5 = .ok (.iaload, 1) := by decide +kernel
theorem dX7_thingsAt_6 : decode prog_9_method_9_code 6 = .ok (.invokestatic 108, 3) := by decide +kernel
theorem dX7_thingsAt_9 : decode prog_9_method_9_code 9 = .ok (.ireturn, 1) := by decide +kernel
theorem rX7_thingsAt_0 {d : Nat} {h : Hp} {Q : Option PV → Hp → Prop} {st : List PV}{t : List (Option PV)} {v : Nat} : WP d mX7_thingsAt 0 (some (.inr (.inr v)) :: t) st h Q = WP d mX7_thingsAt 1 (some (.inr (.inr v)) :: t) (.inr (.inr v) :: st) h Q := WP_step dX7_thingsAt_0 rfl rfl rfl
theorem rX7_thingsAt_1 {d : Nat} {h : Hp} {Q : Option PV → Hp → Prop} {st : List PV}{ls : List (Option PV)}{a : Nat} : WP d mX7_thingsAt 1 ls (.inr (.inr a) :: st) h Q = ((hK h a).1 = 7 ∧ WP d mX7_thingsAt 4 ls (.inr (.inr (hR h a 4)) :: st) h Q) := R_get2 dX7_thingsAt_1 rfl
theorem rX7_thingsAt_4 {d : Nat} {h : Hp} {Q : Option PV → Hp → Prop} {st : List PV}{x0 : Option PV} {t : List (Option PV)} {v : Int} : WP d mX7_thingsAt 4 (x0 :: some (.inl v) :: t) st h Q = WP d mX7_thingsAt 5 (x0 :: some (.inl v) :: t) (.inl v :: st) h Q := WP_step dX7_thingsAt_4 rfl rfl rfl
theorem rX7_thingsAt_5 {d : Nat} {h : Hp} {Q : Option PV → Hp → Prop} {st : List PV}{ls : List (Option PV)}{a : Nat} {z : Int} : WP d mX7_thingsAt 5 ls (.inl z :: .inr (.inr a) :: st) h Q = ((hK h a).1 = 21 ∧ 0 ≤ z ∧ z < (hK h a).2 ∧ WP d mX7_thingsAt 6 ls (.inl (hI h a z.toNat) :: st) h Q) := R_iald dX7_thingsAt_5
theorem rX7_thingsAt_6 {d : Nat} {h : Hp} {Q : Option PV → Hp → Prop} {ls : List (Option PV)}{v0 : Int} : WP (d + 1) mX7_thingsAt 6 ls (.inl v0 :: []) h Q = WP d mX11_thingsOf 0 [some (.inl v0)] [] h (fun r h' => WP (d + 1) mX7_thingsAt 9 ls (psh r []) h' Q) := R_callS (st := .inl v0 :: []) (M := mX7_thingsAt) (pc := 6) (kd := 5) (n := 1) (M' := mX11_thingsOf) (as := [.inl v0]) (rest := []) (en := [some (.inl v0)]) dX7_thingsAt_6 rfl (Or.inr rfl) (Nat.le_of_ble_eq_true rfl) rfl (Nat.le_of_ble_eq_true rfl) rfl rfl rfl
theorem rX7_thingsAt_9 {d : Nat} {h : Hp} {Q : Option PV → Hp → Prop} {ls : List (Option PV)}{z : Int} : WP d mX7_thingsAt 9 ls [.inl z] h Q = Q (some (.inl z)) h := R_iret dX7_thingsAt_9 rfl
theorem dX7_placeOfThing_0 : decode prog_9_method_10_code 0 = .ok (.iconst 0, 1) := by decide +kernel
theorem dX7_placeOfThing_1 : decode prog_9_method_10_code 1 = .ok (.istore_n 2, 1) := by decide +kernel
theorem dX7_placeOfThing_2 : decode prog_9_method_10_code 2 = .ok (.iload_n 2, 1) := by decide +kernel
theorem dX7_placeOfThing_3 : decode prog_9_method_10_code 3 = .ok (.aload_n 0, 1) := by decide +kernel
theorem dX7_placeOfThing_4 : decode prog_9_method_10_code 4 = .ok (.getfield 86, 3) := by decide +kernel
theorem dX7_placeOfThing_7 : decode prog_9_method_10_code 7 = .ok (.if_icmp .ge 23, 3) := by decide +kernel
theorem dX7_placeOfThing_10 : decode prog_9_method_10_code 10 = .ok (.aload_n 0, 1) := by decide +kernel
theorem dX7_placeOfThing_11 : decode prog_9_method_10_code 11 = .ok (.iload_n 2, 1) := by decide +kernel
theorem dX7_placeOfThing_12 : decode prog_9_method_10_code 12 = .ok (.invokevirtual 121, 3) := by decide +kernel
theorem dX7_placeOfThing_15 : decode prog_9_method_10_code 15 = .ok (.iload_n 1, 1) := by decide +kernel
theorem dX7_placeOfThing_16 : decode prog_9_method_10_code 16 = .ok (.invokestatic 97, 3) := by decide +kernel
theorem dX7_placeOfThing_19 : decode prog_9_method_10_code 19 = .ok (.ifCond .eq 5, 3) := by decide +kernel
theorem dX7_placeOfThing_22 : decode prog_9_method_10_code 22 = .ok (.iload_n 2, 1) := by decide +kernel
theorem dX7_placeOfThing_23 : decode prog_9_method_10_code 23 = .ok (.ireturn, 1) := by decide +kernel
theorem dX7_placeOfThing_24 : decode prog_9_method_10_code 24 = .ok (.iinc 2 1, 3) := by decide +kernel
theorem dX7_placeOfThing_27 : decode prog_9_method_10_code 27 = .ok (.goto (-25), 3) := by decide +kernel
theorem dX7_placeOfThing_30 : decode prog_9_method_10_code 30 = .ok (.iconst (-1), 1) := by decide +kernel
theorem dX7_placeOfThing_31 : decode prog_9_method_10_code 31 = .ok (.ireturn, 1) := by decide +kernel
theorem rX7_placeOfThing_0 {d : Nat} {h : Hp} {Q : Option PV → Hp → Prop} {st : List PV}{ls : List (Option PV)} : WP d mX7_placeOfThing 0 ls st h Q = WP d mX7_placeOfThing 1 ls (.inl (0) :: st) h Q := WP_step dX7_placeOfThing_0 rfl rfl rfl
theorem rX7_placeOfThing_1 {d : Nat} {h : Hp} {Q : Option PV → Hp → Prop} {st : List PV}{x0 x1 x2 : Option PV} {v : Int} : WP d mX7_placeOfThing 1 [x0, x1, x2] (.inl v :: st) h Q = WP d mX7_placeOfThing 2 [x0, x1, some (.inl v)] st h Q := WP_step dX7_placeOfThing_1 rfl rfl rfl
theorem rX7_placeOfThing_2 {d : Nat} {h : Hp} {Q : Option PV → Hp → Prop} {st : List PV}{x0 x1 : Option PV} {t : List (Option PV)} {v : Int} : WP d mX7_placeOfThing 2 (x0 :: x1 :: some (.inl v) :: t) st h Q = WP d mX7_placeOfThing 3 (x0 :: x1 :: some (.inl v) :: t) (.inl v :: st) h Q := WP_step dX7_placeOfThing_2 rfl rfl rfl
theorem rX7_placeOfThing_3 {d : Nat} {h : Hp} {Q : Option PV → Hp → Prop} {st : List PV}{t : List (Option PV)} {v : Nat} : WP d mX7_placeOfThing 3 (some (.inr (.inr v)) :: t) st h Q = WP d mX7_placeOfThing 4 (some (.inr (.inr v)) :: t) (.inr (.inr v) :: st) h Q := WP_step dX7_placeOfThing_3 rfl rfl rfl
theorem rX7_placeOfThing_4 {d : Nat} {h : Hp} {Q : Option PV → Hp → Prop} {st : List PV}{ls : List (Option PV)}{a : Nat} : WP d mX7_placeOfThing 4 ls (.inr (.inr a) :: st) h Q = ((hK h a).1 = 7 ∧ WP d mX7_placeOfThing 7 ls (.inl (hI h a 12) :: st) h Q) := R_get0 dX7_placeOfThing_4 rfl
theorem rX7_placeOfThing_7 {d : Nat} {h : Hp} {Q : Option PV → Hp → Prop} {st : List PV}{ls : List (Option PV)}{a b : Int} : WP d mX7_placeOfThing 7 ls (.inl b :: .inl a :: st) h Q = (if a < b then WP d mX7_placeOfThing 10 ls st h Q else WP d mX7_placeOfThing 30 ls st h Q) := R_icmp_ge dX7_placeOfThing_7 (by decide)
theorem rX7_placeOfThing_10 {d : Nat} {h : Hp} {Q : Option PV → Hp → Prop} {st : List PV}{t : List (Option PV)} {v : Nat} : WP d mX7_placeOfThing 10 (some (.inr (.inr v)) :: t) st h Q = WP d mX7_placeOfThing 11 (some (.inr (.inr v)) :: t) (.inr (.inr v) :: st) h Q := WP_step dX7_placeOfThing_10 rfl rfl rfl
theorem rX7_placeOfThing_11 {d : Nat} {h : Hp} {Q : Option PV → Hp → Prop} {st : List PV}{x0 x1 : Option PV} {t : List (Option PV)} {v : Int} : WP d mX7_placeOfThing 11 (x0 :: x1 :: some (.inl v) :: t) st h Q = WP d mX7_placeOfThing 12 (x0 :: x1 :: some (.inl v) :: t) (.inl v :: st) h Q := WP_step dX7_placeOfThing_11 rfl rfl rfl
theorem rX7_placeOfThing_12 {d : Nat} {h : Hp} {Q : Option PV → Hp → Prop} {ls : List (Option PV)}{v0 : Nat} {v1 : Int} : WP (d + 1) mX7_placeOfThing 12 ls (.inl v1 :: .inr (.inr v0) :: []) h Q = ((hK h v0).1 = 7 ∧ WP d mX7_thingsAt 0 [some (.inr (.inr v0)), some (.inl v1)] [] h (fun r h' => WP (d + 1) mX7_placeOfThing 15 ls (psh r []) h' Q)) := R_callV (st := .inl v1 :: .inr (.inr v0) :: []) (M := mX7_placeOfThing) (pc := 12) (kd := 0) (n := 2) (M' := mX7_thingsAt) (as := [.inl v1, .inr (.inr v0)]) (rest := []) (en := [some (.inr (.inr v0)), some (.inl v1)]) dX7_placeOfThing_12 rfl (Nat.le_of_ble_eq_true rfl) (Nat.le_of_ble_eq_true rfl) rfl rfl (Nat.le_of_ble_eq_true rfl) rfl rfl rfl
theorem rX7_placeOfThing_15 {d : Nat} {h : Hp} {Q : Option PV → Hp → Prop} {st : List PV}{x0 : Option PV} {t : List (Option PV)} {v : Int} : WP d mX7_placeOfThing 15 (x0 :: some (.inl v) :: t) st h Q = WP d mX7_placeOfThing 16 (x0 :: some (.inl v) :: t) (.inl v :: st) h Q := WP_step dX7_placeOfThing_15 rfl rfl rfl
theorem rX7_placeOfThing_16 {d : Nat} {h : Hp} {Q : Option PV → Hp → Prop} {ls : List (Option PV)}{v0 : Int} {v1 : Int} : WP (d + 1) mX7_placeOfThing 16 ls (.inl v1 :: .inl v0 :: []) h Q = WP d mX11_has 0 [some (.inl v0), some (.inl v1)] [] h (fun r h' => WP (d + 1) mX7_placeOfThing 19 ls (psh r []) h' Q) := R_callS (st := .inl v1 :: .inl v0 :: []) (M := mX7_placeOfThing) (pc := 16) (kd := 5) (n := 2) (M' := mX11_has) (as := [.inl v1, .inl v0]) (rest := []) (en := [some (.inl v0), some (.inl v1)]) dX7_placeOfThing_16 rfl (Or.inr rfl) (Nat.le_of_ble_eq_true rfl) rfl (Nat.le_of_ble_eq_true rfl) rfl rfl rfl
theorem rX7_placeOfThing_19 {d : Nat} {h : Hp} {Q : Option PV → Hp → Prop} {st : List PV}{ls : List (Option PV)}{a : Int} : WP d mX7_placeOfThing 19 ls (.inl a :: st) h Q = (if a = 0 then WP d mX7_placeOfThing 24 ls st h Q else WP d mX7_placeOfThing 22 ls st h Q) := R_if_eq dX7_placeOfThing_19 (by decide)
theorem rX7_placeOfThing_22 {d : Nat} {h : Hp} {Q : Option PV → Hp → Prop} {st : List PV}{x0 x1 : Option PV} {t : List (Option PV)} {v : Int} : WP d mX7_placeOfThing 22 (x0 :: x1 :: some (.inl v) :: t) st h Q = WP d mX7_placeOfThing 23 (x0 :: x1 :: some (.inl v) :: t) (.inl v :: st) h Q := WP_step dX7_placeOfThing_22 rfl rfl rfl
theorem rX7_placeOfThing_23 {d : Nat} {h : Hp} {Q : Option PV → Hp → Prop} {ls : List (Option PV)}{z : Int} : WP d mX7_placeOfThing 23 ls [.inl z] h Q = Q (some (.inl z)) h := R_iret dX7_placeOfThing_23 rfl
theorem rX7_placeOfThing_24 {d : Nat} {h : Hp} {Q : Option PV → Hp → Prop} {st : List PV}{x0 x1 : Option PV} {t : List (Option PV)} {v : Int} : WP d mX7_placeOfThing 24 (x0 :: x1 :: some (.inl v) :: t) st h Q = WP d mX7_placeOfThing 27 (x0 :: x1 :: some (.inl (w32 (v + 1))) :: t) st h Q := WP_step dX7_placeOfThing_24 rfl rfl rfl
theorem rX7_placeOfThing_27 {d : Nat} {h : Hp} {Q : Option PV → Hp → Prop} {st : List PV}{ls : List (Option PV)} : WP d mX7_placeOfThing 27 ls st h Q = WP d mX7_placeOfThing 2 ls st h Q := R_goto dX7_placeOfThing_27 (by decide)
theorem rX7_placeOfThing_30 {d : Nat} {h : Hp} {Q : Option PV → Hp → Prop} {st : List PV}{ls : List (Option PV)} : WP d mX7_placeOfThing 30 ls st h Q = WP d mX7_placeOfThing 31 ls (.inl (-1) :: st) h Q := WP_step dX7_placeOfThing_30 rfl rfl rfl
theorem rX7_placeOfThing_31 {d : Nat} {h : Hp} {Q : Option PV → Hp → Prop} {ls : List (Option PV)}{z : Int} : WP d mX7_placeOfThing 31 ls [.inl z] h Q = Q (some (.inl z)) h := R_iret dX7_placeOfThing_31 rfl
theorem dX7_placeOfBoard_0 : decode prog_9_method_11_code 0 = .ok (.iconst 0, 1) := by decide +kernel
theorem dX7_placeOfBoard_1 : decode prog_9_method_11_code 1 = .ok (.istore_n 2, 1) := by decide +kernel
theorem dX7_placeOfBoard_2 : decode prog_9_method_11_code 2 = .ok (.iload_n 2, 1) := by decide +kernel
theorem dX7_placeOfBoard_3 : decode prog_9_method_11_code 3 = .ok (.aload_n 0, 1) := by decide +kernel
theorem dX7_placeOfBoard_4 : decode prog_9_method_11_code 4 = .ok (.getfield 86, 3) := by decide +kernel
theorem dX7_placeOfBoard_7 : decode prog_9_method_11_code 7 = .ok (.if_icmp .ge 20, 3) := by decide +kernel
theorem dX7_placeOfBoard_10 : decode prog_9_method_11_code 10 = .ok (.aload_n 0, 1) := by decide +kernel
theorem dX7_placeOfBoard_11 : decode prog_9_method_11_code 11 = .ok (.iload_n 2, 1) := by decide +kernel
theorem dX7_placeOfBoard_12 : decode prog_9_method_11_code 12 = .ok (.invokevirtual 124, 3) := by decide +kernel
theorem dX7_placeOfBoard_15 : decode prog_9_method_11_code 15 = .ok (.iload_n 1, 1) := by decide +kernel
theorem dX7_placeOfBoard_16 : decode prog_9_method_11_code 16 = .ok (.if_icmp .ne 5, 3) := by decide +kernel
theorem dX7_placeOfBoard_19 : decode prog_9_method_11_code 19 = .ok (.iload_n 2, 1) := by decide +kernel
theorem dX7_placeOfBoard_20 : decode prog_9_method_11_code 20 = .ok (.ireturn, 1) := by decide +kernel
theorem dX7_placeOfBoard_21 : decode prog_9_method_11_code 21 = .ok (.iinc 2 1, 3) := by decide +kernel
theorem dX7_placeOfBoard_24 : decode prog_9_method_11_code 24 = .ok (.goto (-22), 3) := by decide +kernel
theorem dX7_placeOfBoard_27 : decode prog_9_method_11_code 27 = .ok (.iconst (-1), 1) := by decide +kernel
theorem dX7_placeOfBoard_28 : decode prog_9_method_11_code 28 = .ok (.ireturn, 1) := by decide +kernel
theorem rX7_placeOfBoard_0 {d : Nat} {h : Hp} {Q : Option PV → Hp → Prop} {st : List PV}{ls : List (Option PV)} : WP d mX7_placeOfBoard 0 ls st h Q = WP d mX7_placeOfBoard 1 ls (.inl (0) :: st) h Q := WP_step dX7_placeOfBoard_0 rfl rfl rfl
theorem rX7_placeOfBoard_1 {d : Nat} {h : Hp} {Q : Option PV → Hp → Prop} {st : List PV}{x0 x1 x2 : Option PV} {v : Int} : WP d mX7_placeOfBoard 1 [x0, x1, x2] (.inl v :: st) h Q = WP d mX7_placeOfBoard 2 [x0, x1, some (.inl v)] st h Q := WP_step dX7_placeOfBoard_1 rfl rfl rfl
theorem rX7_placeOfBoard_2 {d : Nat} {h : Hp} {Q : Option PV → Hp → Prop} {st : List PV}{x0 x1 : Option PV} {t : List (Option PV)} {v : Int} : WP d mX7_placeOfBoard 2 (x0 :: x1 :: some (.inl v) :: t) st h Q = WP d mX7_placeOfBoard 3 (x0 :: x1 :: some (.inl v) :: t) (.inl v :: st) h Q := WP_step dX7_placeOfBoard_2 rfl rfl rfl
theorem rX7_placeOfBoard_3 {d : Nat} {h : Hp} {Q : Option PV → Hp → Prop} {st : List PV}{t : List (Option PV)} {v : Nat} : WP d mX7_placeOfBoard 3 (some (.inr (.inr v)) :: t) st h Q = WP d mX7_placeOfBoard 4 (some (.inr (.inr v)) :: t) (.inr (.inr v) :: st) h Q := WP_step dX7_placeOfBoard_3 rfl rfl rfl
theorem rX7_placeOfBoard_4 {d : Nat} {h : Hp} {Q : Option PV → Hp → Prop} {st : List PV}{ls : List (Option PV)}{a : Nat} : WP d mX7_placeOfBoard 4 ls (.inr (.inr a) :: st) h Q = ((hK h a).1 = 7 ∧ WP d mX7_placeOfBoard 7 ls (.inl (hI h a 12) :: st) h Q) := R_get0 dX7_placeOfBoard_4 rfl
theorem rX7_placeOfBoard_7 {d : Nat} {h : Hp} {Q : Option PV → Hp → Prop} {st : List PV}{ls : List (Option PV)}{a b : Int} : WP d mX7_placeOfBoard 7 ls (.inl b :: .inl a :: st) h Q = (if a < b then WP d mX7_placeOfBoard 10 ls st h Q else WP d mX7_placeOfBoard 27 ls st h Q) := R_icmp_ge dX7_placeOfBoard_7 (by decide)
theorem rX7_placeOfBoard_10 {d : Nat} {h : Hp} {Q : Option PV → Hp → Prop} {st : List PV}{t : List (Option PV)} {v : Nat} : WP d mX7_placeOfBoard 10 (some (.inr (.inr v)) :: t) st h Q = WP d mX7_placeOfBoard 11 (some (.inr (.inr v)) :: t) (.inr (.inr v) :: st) h Q := WP_step dX7_placeOfBoard_10 rfl rfl rfl
theorem rX7_placeOfBoard_11 {d : Nat} {h : Hp} {Q : Option PV → Hp → Prop} {st : List PV}{x0 x1 : Option PV} {t : List (Option PV)} {v : Int} : WP d mX7_placeOfBoard 11 (x0 :: x1 :: some (.inl v) :: t) st h Q = WP d mX7_placeOfBoard 12 (x0 :: x1 :: some (.inl v) :: t) (.inl v :: st) h Q := WP_step dX7_placeOfBoard_11 rfl rfl rfl
theorem rX7_placeOfBoard_12 {d : Nat} {h : Hp} {Q : Option PV → Hp → Prop} {ls : List (Option PV)}{v0 : Nat} {v1 : Int} : WP (d + 1) mX7_placeOfBoard 12 ls (.inl v1 :: .inr (.inr v0) :: []) h Q = ((hK h v0).1 = 7 ∧ WP d mX7_boardAt 0 [some (.inr (.inr v0)), some (.inl v1)] [] h (fun r h' => WP (d + 1) mX7_placeOfBoard 15 ls (psh r []) h' Q)) := R_callV (st := .inl v1 :: .inr (.inr v0) :: []) (M := mX7_placeOfBoard) (pc := 12) (kd := 0) (n := 2) (M' := mX7_boardAt) (as := [.inl v1, .inr (.inr v0)]) (rest := []) (en := [some (.inr (.inr v0)), some (.inl v1)]) dX7_placeOfBoard_12 rfl (Nat.le_of_ble_eq_true rfl) (Nat.le_of_ble_eq_true rfl) rfl rfl (Nat.le_of_ble_eq_true rfl) rfl rfl rfl
theorem rX7_placeOfBoard_15 {d : Nat} {h : Hp} {Q : Option PV → Hp → Prop} {st : List PV}{x0 : Option PV} {t : List (Option PV)} {v : Int} : WP d mX7_placeOfBoard 15 (x0 :: some (.inl v) :: t) st h Q = WP d mX7_placeOfBoard 16 (x0 :: some (.inl v) :: t) (.inl v :: st) h Q := WP_step dX7_placeOfBoard_15 rfl rfl rfl
theorem rX7_placeOfBoard_16 {d : Nat} {h : Hp} {Q : Option PV → Hp → Prop} {st : List PV}{ls : List (Option PV)}{a b : Int} : WP d mX7_placeOfBoard 16 ls (.inl b :: .inl a :: st) h Q = (if a = b then WP d mX7_placeOfBoard 19 ls st h Q else WP d mX7_placeOfBoard 21 ls st h Q) := R_icmp_ne dX7_placeOfBoard_16 (by decide)
theorem rX7_placeOfBoard_19 {d : Nat} {h : Hp} {Q : Option PV → Hp → Prop} {st : List PV}{x0 x1 : Option PV} {t : List (Option PV)} {v : Int} : WP d mX7_placeOfBoard 19 (x0 :: x1 :: some (.inl v) :: t) st h Q = WP d mX7_placeOfBoard 20 (x0 :: x1 :: some (.inl v) :: t) (.inl v :: st) h Q := WP_step dX7_placeOfBoard_19 rfl rfl rfl
theorem rX7_placeOfBoard_20 {d : Nat} {h : Hp} {Q : Option PV → Hp → Prop} {ls : List (Option PV)}{z : Int} : WP d mX7_placeOfBoard 20 ls [.inl z] h Q = Q (some (.inl z)) h := R_iret dX7_placeOfBoard_20 rfl
theorem rX7_placeOfBoard_21 {d : Nat} {h : Hp} {Q : Option PV → Hp → Prop} {st : List PV}{x0 x1 : Option PV} {t : List (Option PV)} {v : Int} : WP d mX7_placeOfBoard 21 (x0 :: x1 :: some (.inl v) :: t) st h Q = WP d mX7_placeOfBoard 24 (x0 :: x1 :: some (.inl (w32 (v + 1))) :: t) st h Q := WP_step dX7_placeOfBoard_21 rfl rfl rfl
theorem rX7_placeOfBoard_24 {d : Nat} {h : Hp} {Q : Option PV → Hp → Prop} {st : List PV}{ls : List (Option PV)} : WP d mX7_placeOfBoard 24 ls st h Q = WP d mX7_placeOfBoard 2 ls st h Q := R_goto dX7_placeOfBoard_24 (by decide)
theorem rX7_placeOfBoard_27 {d : Nat} {h : Hp} {Q : Option PV → Hp → Prop} {st : List PV}{ls : List (Option PV)} : WP d mX7_placeOfBoard 27 ls st h Q = WP d mX7_placeOfBoard 28 ls (.inl (-1) :: st) h Q := WP_step dX7_placeOfBoard_27 rfl rfl rfl
theorem rX7_placeOfBoard_28 {d : Nat} {h : Hp} {Q : Option PV → Hp → Prop} {ls : List (Option PV)}{z : Int} : WP d mX7_placeOfBoard 28 ls [.inl z] h Q = Q (some (.inl z)) h := R_iret dX7_placeOfBoard_28 rfl
theorem dX7_divesTo_0 : decode prog_9_method_12_code 0 = .ok (.iload_n 1, 1) := by decide +kernel
theorem dX7_divesTo_1 : decode prog_9_method_12_code 1 = .ok (.iconst (-1), 1) := by decide +kernel
theorem dX7_divesTo_2 : decode prog_9_method_12_code 2 = .ok (.if_icmp .ne 7, 3) := by decide +kernel
theorem dX7_divesTo_5 : decode prog_9_method_12_code 5 = .ok (.iconst (-1), 1) := by decide +kernel
theorem dX7_divesTo_6 : decode prog_9_method_12_code 6 = .ok (.goto 9, 3) := by decide +kernel
theorem dX7_divesTo_9 : decode prog_9_method_12_code 9 = .ok (.aload_n 0, 1) := by decide +kernel
theorem dX7_divesTo_10 : decode prog_9_method_12_code 10 = .ok (.getfield 38, 3) := by decide +kernel
theorem dX7_divesTo_13 : decode prog_9_method_12_code 13 = .ok (.iload_n 1, 1) := by decide +kernel
theorem dX7_divesTo_14 : decode prog_9_method_12_code 14 = .ok (.iaload, 1) := by decide +kernel
theorem dX7_divesTo_15 : decode prog_9_method_12_code 15 = .ok (.ireturn, 1) := by decide +kernel
theorem rX7_divesTo_0 {d : Nat} {h : Hp} {Q : Option PV → Hp → Prop} {st : List PV}{x0 : Option PV} {t : List (Option PV)} {v : Int} : WP d mX7_divesTo 0 (x0 :: some (.inl v) :: t) st h Q = WP d mX7_divesTo 1 (x0 :: some (.inl v) :: t) (.inl v :: st) h Q := WP_step dX7_divesTo_0 rfl rfl rfl
theorem rX7_divesTo_1 {d : Nat} {h : Hp} {Q : Option PV → Hp → Prop} {st : List PV}{ls : List (Option PV)} : WP d mX7_divesTo 1 ls st h Q = WP d mX7_divesTo 2 ls (.inl (-1) :: st) h Q := WP_step dX7_divesTo_1 rfl rfl rfl
theorem rX7_divesTo_2 {d : Nat} {h : Hp} {Q : Option PV → Hp → Prop} {st : List PV}{ls : List (Option PV)}{a b : Int} : WP d mX7_divesTo 2 ls (.inl b :: .inl a :: st) h Q = (if a = b then WP d mX7_divesTo 5 ls st h Q else WP d mX7_divesTo 9 ls st h Q) := R_icmp_ne dX7_divesTo_2 (by decide)
theorem rX7_divesTo_5 {d : Nat} {h : Hp} {Q : Option PV → Hp → Prop} {st : List PV}{ls : List (Option PV)} : WP d mX7_divesTo 5 ls st h Q = WP d mX7_divesTo 6 ls (.inl (-1) :: st) h Q := WP_step dX7_divesTo_5 rfl rfl rfl
theorem rX7_divesTo_6 {d : Nat} {h : Hp} {Q : Option PV → Hp → Prop} {st : List PV}{ls : List (Option PV)} : WP d mX7_divesTo 6 ls st h Q = WP d mX7_divesTo 15 ls st h Q := R_goto dX7_divesTo_6 (by decide)
theorem rX7_divesTo_9 {d : Nat} {h : Hp} {Q : Option PV → Hp → Prop} {st : List PV}{t : List (Option PV)} {v : Nat} : WP d mX7_divesTo 9 (some (.inr (.inr v)) :: t) st h Q = WP d mX7_divesTo 10 (some (.inr (.inr v)) :: t) (.inr (.inr v) :: st) h Q := WP_step dX7_divesTo_9 rfl rfl rfl
theorem rX7_divesTo_10 {d : Nat} {h : Hp} {Q : Option PV → Hp → Prop} {st : List PV}{ls : List (Option PV)}{a : Nat} : WP d mX7_divesTo 10 ls (.inr (.inr a) :: st) h Q = ((hK h a).1 = 7 ∧ WP d mX7_divesTo 13 ls (.inr (.inr (hR h a 8)) :: st) h Q) := R_get2 dX7_divesTo_10 rfl
theorem rX7_divesTo_13 {d : Nat} {h : Hp} {Q : Option PV → Hp → Prop} {st : List PV}{x0 : Option PV} {t : List (Option PV)} {v : Int} : WP d mX7_divesTo 13 (x0 :: some (.inl v) :: t) st h Q = WP d mX7_divesTo 14 (x0 :: some (.inl v) :: t) (.inl v :: st) h Q := WP_step dX7_divesTo_13 rfl rfl rfl
theorem rX7_divesTo_14 {d : Nat} {h : Hp} {Q : Option PV → Hp → Prop} {st : List PV}{ls : List (Option PV)}{a : Nat} {z : Int} : WP d mX7_divesTo 14 ls (.inl z :: .inr (.inr a) :: st) h Q = ((hK h a).1 = 21 ∧ 0 ≤ z ∧ z < (hK h a).2 ∧ WP d mX7_divesTo 15 ls (.inl (hI h a z.toNat) :: st) h Q) := R_iald dX7_divesTo_14
theorem rX7_divesTo_15 {d : Nat} {h : Hp} {Q : Option PV → Hp → Prop} {ls : List (Option PV)}{z : Int} : WP d mX7_divesTo 15 ls [.inl z] h Q = Q (some (.inl z)) h := R_iret dX7_divesTo_15 rfl
theorem dX7_goerTo_0 : decode prog_9_method_13_code 0 = .ok (.iload_n 1, 1) := by decide +kernel
theorem dX7_goerTo_1 : decode prog_9_method_13_code 1 = .ok (.iconst (-1), 1) := by decide +kernel
theorem dX7_goerTo_2 : decode prog_9_method_13_code 2 = .ok (.if_icmp .eq 13, 3) := by decide +kernel
theorem dX7_goerTo_5 : decode prog_9_method_13_code 5 = .ok (.iload_n 2, 1) := by decide +kernel
theorem dX7_goerTo_6 : decode prog_9_method_13_code 6 = .ok (.aload_n 0, 1) := by decide +kernel
theorem dX7_goerTo_7 : decode prog_9_method_13_code 7 = .ok (.getfield 38, 3) := by decide +kernel
theorem dX7_goerTo_10 : decode prog_9_method_13_code 10 = .ok (.iload_n 1, 1) := by decide +kernel
theorem dX7_goerTo_11 : decode prog_9_method_13_code 11 = .ok (.iaload, 1) := by decide +kernel
theorem dX7_goerTo_12 : decode prog_9_method_13_code 12 = .ok (.if_icmp .lt 5, 3) := by decide +kernel
theorem dX7_goerTo_15 : decode prog_9_method_13_code 15 = .ok (.iconst (-1), 1) := by decide +kernel
theorem dX7_goerTo_16 : decode prog_9_method_13_code 16 = .ok (.ireturn, 1) := by decide +kernel
theorem dX7_goerTo_17 : decode prog_9_method_13_code 17 = .ok (.iload_n 1, 1) := by decide +kernel
theorem dX7_goerTo_18 : decode prog_9_method_13_code 18 = .ok (.istore_n 3, 1) := by decide +kernel
theorem dX7_goerTo_19 : decode prog_9_method_13_code 19 = .ok (.aload_n 0, 1) := by decide +kernel
theorem dX7_goerTo_20 : decode prog_9_method_13_code 20 = .ok (.getfield 38, 3) := by decide +kernel
theorem dX7_goerTo_23 : decode prog_9_method_13_code 23 = .ok (.iload_n 1, 1) := by decide +kernel
theorem dX7_goerTo_24 : decode prog_9_method_13_code 24 = .ok (.iaload, 1) := by decide +kernel
theorem dX7_goerTo_25 : decode prog_9_method_13_code 25 = .ok (.iconst 1, 1) := by decide +kernel
theorem dX7_goerTo_26 : decode prog_9_method_13_code 26 = .ok (.isub, 1) := by decide +kernel
theorem dX7_goerTo_27 : decode prog_9_method_13_code 27 = .ok (.istore 4, 2) := by decide +kernel
theorem dX7_goerTo_29 : decode prog_9_method_13_code 29 = .ok (.iload 4, 2) := by decide +kernel
theorem dX7_goerTo_31 : decode prog_9_method_13_code 31 = .ok (.iload_n 2, 1) := by decide +kernel
theorem dX7_goerTo_32 : decode prog_9_method_13_code 32 = .ok (.if_icmp .le 16, 3) := by decide +kernel
theorem dX7_goerTo_35 : decode prog_9_method_13_code 35 = .ok (.aload_n 0, 1) := by decide +kernel
theorem dX7_goerTo_36 : decode prog_9_method_13_code 36 = .ok (.getfield 32, 3) := by decide +kernel
theorem dX7_goerTo_39 : decode prog_9_method_13_code 39 = .ok (.iload_n 3, 1) := by decide +kernel
theorem dX7_goerTo_40 : decode prog_9_method_13_code 40 = .ok (.iaload, 1) := by decide +kernel
theorem dX7_goerTo_41 : decode prog_9_method_13_code 41 = .ok (.istore_n 3, 1) := by decide +kernel
theorem dX7_goerTo_42 : decode prog_9_method_13_code 42 = .ok (.iinc 4 (-1), 3) := by decide +kernel
theorem dX7_goerTo_45 : decode prog_9_method_13_code 45 = .ok (.goto (-16), 3) := by decide +kernel
theorem dX7_goerTo_48 : decode prog_9_method_13_code 48 = .ok (.aload_n 0, 1) := by decide +kernel
theorem dX7_goerTo_49 : decode prog_9_method_13_code 49 = .ok (.getfield 35, 3) := by decide +kernel
theorem dX7_goerTo_52 : decode prog_9_method_13_code 52 = .ok (.iload_n 3, 1) := by decide +kernel
theorem dX7_goerTo_53 : decode prog_9_method_13_code 53 = .ok (.iaload, 1) := by decide +kernel
theorem dX7_goerTo_54 : decode prog_9_method_13_code 54 = .ok (.ireturn, 1) := by decide +kernel
theorem rX7_goerTo_0 {d : Nat} {h : Hp} {Q : Option PV → Hp → Prop} {st : List PV}{x0 : Option PV} {t : List (Option PV)} {v : Int} : WP d mX7_goerTo 0 (x0 :: some (.inl v) :: t) st h Q = WP d mX7_goerTo 1 (x0 :: some (.inl v) :: t) (.inl v :: st) h Q := WP_step dX7_goerTo_0 rfl rfl rfl
theorem rX7_goerTo_1 {d : Nat} {h : Hp} {Q : Option PV → Hp → Prop} {st : List PV}{ls : List (Option PV)} : WP d mX7_goerTo 1 ls st h Q = WP d mX7_goerTo 2 ls (.inl (-1) :: st) h Q := WP_step dX7_goerTo_1 rfl rfl rfl
theorem rX7_goerTo_2 {d : Nat} {h : Hp} {Q : Option PV → Hp → Prop} {st : List PV}{ls : List (Option PV)}{a b : Int} : WP d mX7_goerTo 2 ls (.inl b :: .inl a :: st) h Q = (if a = b then WP d mX7_goerTo 15 ls st h Q else WP d mX7_goerTo 5 ls st h Q) := R_icmp_eq dX7_goerTo_2 (by decide)
theorem rX7_goerTo_5 {d : Nat} {h : Hp} {Q : Option PV → Hp → Prop} {st : List PV}{x0 x1 : Option PV} {t : List (Option PV)} {v : Int} : WP d mX7_goerTo 5 (x0 :: x1 :: some (.inl v) :: t) st h Q = WP d mX7_goerTo 6 (x0 :: x1 :: some (.inl v) :: t) (.inl v :: st) h Q := WP_step dX7_goerTo_5 rfl rfl rfl
theorem rX7_goerTo_6 {d : Nat} {h : Hp} {Q : Option PV → Hp → Prop} {st : List PV}{t : List (Option PV)} {v : Nat} : WP d mX7_goerTo 6 (some (.inr (.inr v)) :: t) st h Q = WP d mX7_goerTo 7 (some (.inr (.inr v)) :: t) (.inr (.inr v) :: st) h Q := WP_step dX7_goerTo_6 rfl rfl rfl
theorem rX7_goerTo_7 {d : Nat} {h : Hp} {Q : Option PV → Hp → Prop} {st : List PV}{ls : List (Option PV)}{a : Nat} : WP d mX7_goerTo 7 ls (.inr (.inr a) :: st) h Q = ((hK h a).1 = 7 ∧ WP d mX7_goerTo 10 ls (.inr (.inr (hR h a 8)) :: st) h Q) := R_get2 dX7_goerTo_7 rfl
theorem rX7_goerTo_10 {d : Nat} {h : Hp} {Q : Option PV → Hp → Prop} {st : List PV}{x0 : Option PV} {t : List (Option PV)} {v : Int} : WP d mX7_goerTo 10 (x0 :: some (.inl v) :: t) st h Q = WP d mX7_goerTo 11 (x0 :: some (.inl v) :: t) (.inl v :: st) h Q := WP_step dX7_goerTo_10 rfl rfl rfl
theorem rX7_goerTo_11 {d : Nat} {h : Hp} {Q : Option PV → Hp → Prop} {st : List PV}{ls : List (Option PV)}{a : Nat} {z : Int} : WP d mX7_goerTo 11 ls (.inl z :: .inr (.inr a) :: st) h Q = ((hK h a).1 = 21 ∧ 0 ≤ z ∧ z < (hK h a).2 ∧ WP d mX7_goerTo 12 ls (.inl (hI h a z.toNat) :: st) h Q) := R_iald dX7_goerTo_11
theorem rX7_goerTo_12 {d : Nat} {h : Hp} {Q : Option PV → Hp → Prop} {st : List PV}{ls : List (Option PV)}{a b : Int} : WP d mX7_goerTo 12 ls (.inl b :: .inl a :: st) h Q = (if a < b then WP d mX7_goerTo 17 ls st h Q else WP d mX7_goerTo 15 ls st h Q) := R_icmp_lt dX7_goerTo_12 (by decide)
theorem rX7_goerTo_15 {d : Nat} {h : Hp} {Q : Option PV → Hp → Prop} {st : List PV}{ls : List (Option PV)} : WP d mX7_goerTo 15 ls st h Q = WP d mX7_goerTo 16 ls (.inl (-1) :: st) h Q := WP_step dX7_goerTo_15 rfl rfl rfl
theorem rX7_goerTo_16 {d : Nat} {h : Hp} {Q : Option PV → Hp → Prop} {ls : List (Option PV)}{z : Int} : WP d mX7_goerTo 16 ls [.inl z] h Q = Q (some (.inl z)) h := R_iret dX7_goerTo_16 rfl
theorem rX7_goerTo_17 {d : Nat} {h : Hp} {Q : Option PV → Hp → Prop} {st : List PV}{x0 : Option PV} {t : List (Option PV)} {v : Int} : WP d mX7_goerTo 17 (x0 :: some (.inl v) :: t) st h Q = WP d mX7_goerTo 18 (x0 :: some (.inl v) :: t) (.inl v :: st) h Q := WP_step dX7_goerTo_17 rfl rfl rfl
theorem rX7_goerTo_18 {d : Nat} {h : Hp} {Q : Option PV → Hp → Prop} {st : List PV}{x0 x1 x2 x3 x4 : Option PV} {v : Int} : WP d mX7_goerTo 18 [x0, x1, x2, x3, x4] (.inl v :: st) h Q = WP d mX7_goerTo 19 [x0, x1, x2, some (.inl v), x4] st h Q := WP_step dX7_goerTo_18 rfl rfl rfl
theorem rX7_goerTo_19 {d : Nat} {h : Hp} {Q : Option PV → Hp → Prop} {st : List PV}{t : List (Option PV)} {v : Nat} : WP d mX7_goerTo 19 (some (.inr (.inr v)) :: t) st h Q = WP d mX7_goerTo 20 (some (.inr (.inr v)) :: t) (.inr (.inr v) :: st) h Q := WP_step dX7_goerTo_19 rfl rfl rfl
theorem rX7_goerTo_20 {d : Nat} {h : Hp} {Q : Option PV → Hp → Prop} {st : List PV}{ls : List (Option PV)}{a : Nat} : WP d mX7_goerTo 20 ls (.inr (.inr a) :: st) h Q = ((hK h a).1 = 7 ∧ WP d mX7_goerTo 23 ls (.inr (.inr (hR h a 8)) :: st) h Q) := R_get2 dX7_goerTo_20 rfl
theorem rX7_goerTo_23 {d : Nat} {h : Hp} {Q : Option PV → Hp → Prop} {st : List PV}{x0 : Option PV} {t : List (Option PV)} {v : Int} : WP d mX7_goerTo 23 (x0 :: some (.inl v) :: t) st h Q = WP d mX7_goerTo 24 (x0 :: some (.inl v) :: t) (.inl v :: st) h Q := WP_step dX7_goerTo_23 rfl rfl rfl
theorem rX7_goerTo_24 {d : Nat} {h : Hp} {Q : Option PV → Hp → Prop} {st : List PV}{ls : List (Option PV)}{a : Nat} {z : Int} : WP d mX7_goerTo 24 ls (.inl z :: .inr (.inr a) :: st) h Q = ((hK h a).1 = 21 ∧ 0 ≤ z ∧ z < (hK h a).2 ∧ WP d mX7_goerTo 25 ls (.inl (hI h a z.toNat) :: st) h Q) := R_iald dX7_goerTo_24
theorem rX7_goerTo_25 {d : Nat} {h : Hp} {Q : Option PV → Hp → Prop} {st : List PV}{ls : List (Option PV)} : WP d mX7_goerTo 25 ls st h Q = WP d mX7_goerTo 26 ls (.inl (1) :: st) h Q := WP_step dX7_goerTo_25 rfl rfl rfl
theorem rX7_goerTo_26 {d : Nat} {h : Hp} {Q : Option PV → Hp → Prop} {st : List PV}{ls : List (Option PV)}{a b : Int} : WP d mX7_goerTo 26 ls (.inl b :: .inl a :: st) h Q = WP d mX7_goerTo 27 ls (.inl (w32 (a - b)) :: st) h Q := WP_step dX7_goerTo_26 rfl rfl rfl
theorem rX7_goerTo_27 {d : Nat} {h : Hp} {Q : Option PV → Hp → Prop} {st : List PV}{x0 x1 x2 x3 x4 : Option PV} {v : Int} : WP d mX7_goerTo 27 [x0, x1, x2, x3, x4] (.inl v :: st) h Q = WP d mX7_goerTo 29 [x0, x1, x2, x3, some (.inl v)] st h Q := WP_step dX7_goerTo_27 rfl rfl rfl
theorem rX7_goerTo_29 {d : Nat} {h : Hp} {Q : Option PV → Hp → Prop} {st : List PV}{x0 x1 x2 x3 : Option PV} {t : List (Option PV)} {v : Int} : WP d mX7_goerTo 29 (x0 :: x1 :: x2 :: x3 :: some (.inl v) :: t) st h Q = WP d mX7_goerTo 31 (x0 :: x1 :: x2 :: x3 :: some (.inl v) :: t) (.inl v :: st) h Q := WP_step dX7_goerTo_29 rfl rfl rfl
theorem rX7_goerTo_31 {d : Nat} {h : Hp} {Q : Option PV → Hp → Prop} {st : List PV}{x0 x1 : Option PV} {t : List (Option PV)} {v : Int} : WP d mX7_goerTo 31 (x0 :: x1 :: some (.inl v) :: t) st h Q = WP d mX7_goerTo 32 (x0 :: x1 :: some (.inl v) :: t) (.inl v :: st) h Q := WP_step dX7_goerTo_31 rfl rfl rfl
theorem rX7_goerTo_32 {d : Nat} {h : Hp} {Q : Option PV → Hp → Prop} {st : List PV}{ls : List (Option PV)}{a b : Int} : WP d mX7_goerTo 32 ls (.inl b :: .inl a :: st) h Q = (if b < a then WP d mX7_goerTo 35 ls st h Q else WP d mX7_goerTo 48 ls st h Q) := R_icmp_le dX7_goerTo_32 (by decide)
theorem rX7_goerTo_35 {d : Nat} {h : Hp} {Q : Option PV → Hp → Prop} {st : List PV}{t : List (Option PV)} {v : Nat} : WP d mX7_goerTo 35 (some (.inr (.inr v)) :: t) st h Q = WP d mX7_goerTo 36 (some (.inr (.inr v)) :: t) (.inr (.inr v) :: st) h Q := WP_step dX7_goerTo_35 rfl rfl rfl
theorem rX7_goerTo_36 {d : Nat} {h : Hp} {Q : Option PV → Hp → Prop} {st : List PV}{ls : List (Option PV)}{a : Nat} : WP d mX7_goerTo 36 ls (.inr (.inr a) :: st) h Q = ((hK h a).1 = 7 ∧ WP d mX7_goerTo 39 ls (.inr (.inr (hR h a 6)) :: st) h Q) := R_get2 dX7_goerTo_36 rfl
theorem rX7_goerTo_39 {d : Nat} {h : Hp} {Q : Option PV → Hp → Prop} {st : List PV}{x0 x1 x2 : Option PV} {t : List (Option PV)} {v : Int} : WP d mX7_goerTo 39 (x0 :: x1 :: x2 :: some (.inl v) :: t) st h Q = WP d mX7_goerTo 40 (x0 :: x1 :: x2 :: some (.inl v) :: t) (.inl v :: st) h Q := WP_step dX7_goerTo_39 rfl rfl rfl
theorem rX7_goerTo_40 {d : Nat} {h : Hp} {Q : Option PV → Hp → Prop} {st : List PV}{ls : List (Option PV)}{a : Nat} {z : Int} : WP d mX7_goerTo 40 ls (.inl z :: .inr (.inr a) :: st) h Q = ((hK h a).1 = 21 ∧ 0 ≤ z ∧ z < (hK h a).2 ∧ WP d mX7_goerTo 41 ls (.inl (hI h a z.toNat) :: st) h Q) := R_iald dX7_goerTo_40
theorem rX7_goerTo_41 {d : Nat} {h : Hp} {Q : Option PV → Hp → Prop} {st : List PV}{x0 x1 x2 x3 x4 : Option PV} {v : Int} : WP d mX7_goerTo 41 [x0, x1, x2, x3, x4] (.inl v :: st) h Q = WP d mX7_goerTo 42 [x0, x1, x2, some (.inl v), x4] st h Q := WP_step dX7_goerTo_41 rfl rfl rfl
theorem rX7_goerTo_42 {d : Nat} {h : Hp} {Q : Option PV → Hp → Prop} {st : List PV}{x0 x1 x2 x3 : Option PV} {t : List (Option PV)} {v : Int} : WP d mX7_goerTo 42 (x0 :: x1 :: x2 :: x3 :: some (.inl v) :: t) st h Q = WP d mX7_goerTo 45 (x0 :: x1 :: x2 :: x3 :: some (.inl (w32 (v + (-1)))) :: t) st h Q := WP_step dX7_goerTo_42 rfl rfl rfl
theorem rX7_goerTo_45 {d : Nat} {h : Hp} {Q : Option PV → Hp → Prop} {st : List PV}{ls : List (Option PV)} : WP d mX7_goerTo 45 ls st h Q = WP d mX7_goerTo 29 ls st h Q := R_goto dX7_goerTo_45 (by decide)
theorem rX7_goerTo_48 {d : Nat} {h : Hp} {Q : Option PV → Hp → Prop} {st : List PV}{t : List (Option PV)} {v : Nat} : WP d mX7_goerTo 48 (some (.inr (.inr v)) :: t) st h Q = WP d mX7_goerTo 49 (some (.inr (.inr v)) :: t) (.inr (.inr v) :: st) h Q := WP_step dX7_goerTo_48 rfl rfl rfl
theorem rX7_goerTo_49 {d : Nat} {h : Hp} {Q : Option PV → Hp → Prop} {st : List PV}{ls : List (Option PV)}{a : Nat} : WP d mX7_goerTo 49 ls (.inr (.inr a) :: st) h Q = ((hK h a).1 = 7 ∧ WP d mX7_goerTo 52 ls (.inr (.inr (hR h a 7)) :: st) h Q) := R_get2 dX7_goerTo_49 rfl
theorem rX7_goerTo_52 {d : Nat} {h : Hp} {Q : Option PV → Hp → Prop} {st : List PV}{x0 x1 x2 : Option PV} {t : List (Option PV)} {v : Int} : WP d mX7_goerTo 52 (x0 :: x1 :: x2 :: some (.inl v) :: t) st h Q = WP d mX7_goerTo 53 (x0 :: x1 :: x2 :: some (.inl v) :: t) (.inl v :: st) h Q := WP_step dX7_goerTo_52 rfl rfl rfl
theorem rX7_goerTo_53 {d : Nat} {h : Hp} {Q : Option PV → Hp → Prop} {st : List PV}{ls : List (Option PV)}{a : Nat} {z : Int} : WP d mX7_goerTo 53 ls (.inl z :: .inr (.inr a) :: st) h Q = ((hK h a).1 = 21 ∧ 0 ≤ z ∧ z < (hK h a).2 ∧ WP d mX7_goerTo 54 ls (.inl (hI h a z.toNat) :: st) h Q) := R_iald dX7_goerTo_53
theorem rX7_goerTo_54 {d : Nat} {h : Hp} {Q : Option PV → Hp → Prop} {ls : List (Option PV)}{z : Int} : WP d mX7_goerTo 54 ls [.inl z] h Q = Q (some (.inl z)) h := R_iret dX7_goerTo_54 rfl
theorem dX7_canBe_0 : decode prog_9_method_14_code 0 = .ok (.aload_n 0, 1) := by decide +kernel
theorem dX7_canBe_1 : decode prog_9_method_14_code 1 = .ok (.getfield 41, 3) := by decide +kernel
theorem dX7_canBe_4 : decode prog_9_method_14_code 4 = .ok (.iload_n 1, 1) := by decide +kernel
theorem dX7_canBe_5 : decode prog_9_method_14_code 5 = .ok (.iaload, 1) := by decide +kernel
theorem dX7_canBe_6 : decode prog_9_method_14_code 6 = .ok (.iconst (-1), 1) := by decide +kernel
theorem dX7_canBe_7 : decode prog_9_method_14_code 7 = .ok (.if_icmp .ne 41, 3) := by decide +kernel
theorem dX7_canBe_10 : decode prog_9_method_14_code 10 = .ok (.aload_n 0, 1) := by decide +kernel
theorem dX7_canBe_11 : decode prog_9_method_14_code 11 = .ok (.iload_n 1, 1) := by decide +kernel
theorem dX7_canBe_12 : decode prog_9_method_14_code 12 = .ok (.invokevirtual 127, 3) := by decide +kernel
theorem dX7_canBe_15 : decode prog_9_method_14_code 15 = .ok (.iconst 0, 1) := by decide +kernel
theorem dX7_canBe_16 : decode prog_9_method_14_code 16 = .ok (.istore_n 2, 1) := by decide +kernel
theorem dX7_canBe_17 : decode prog_9_method_14_code 17 = .ok (.iconst 0, 1) := by decide +kernel
theorem dX7_canBe_18 : decode prog_9_method_14_code 18 = .ok (.istore_n 3, 1) := by decide +kernel
theorem dX7_canBe_19 : decode prog_9_method_14_code 19 = .ok (.iload_n 3, 1) := by decide +kernel
theorem dX7_canBe_20 : decode prog_9_method_14_code 20 = .ok (.aload_n 0, 1) := by decide +kernel
theorem dX7_canBe_21 : decode prog_9_method_14_code 21 = .ok (.getfield 86, 3) := by decide +kernel
theorem dX7_canBe_24 : decode prog_9_method_14_code 24 = .ok (.if_icmp .ge 17, 3) := by decide +kernel
theorem dX7_canBe_27 : decode prog_9_method_14_code 27 = .ok (.iload_n 2, 1) := by decide +kernel
theorem dX7_canBe_28 : decode prog_9_method_14_code 28 = .ok (.aload_n 0, 1) := by decide +kernel
theorem dX7_canBe_29 : decode prog_9_method_14_code 29 = .ok (.iload_n 3, 1) := by decide +kernel
theorem dX7_canBe_30 : decode prog_9_method_14_code 30 = .ok (.invokevirtual 121, 3) := by decide +kernel
theorem dX7_canBe_33 : decode prog_9_method_14_code 33 = .ok (.ior, 1) := by decide +kernel
theorem dX7_canBe_34 : decode prog_9_method_14_code 34 = .ok (.istore_n 2, 1) := by decide +kernel
theorem dX7_canBe_35 : decode prog_9_method_14_code 35 = .ok (.iinc 3 1, 3) := by decide +kernel
theorem dX7_canBe_38 : decode prog_9_method_14_code 38 = .ok (.goto (-19), 3) := by decide +kernel
theorem dX7_canBe_41 : decode prog_9_method_14_code 41 = .ok (.aload_n 0, 1) := by decide +kernel
theorem dX7_canBe_42 : decode prog_9_method_14_code 42 = .ok (.getfield 41, 3) := by decide +kernel
theorem dX7_canBe_45 : decode prog_9_method_14_code 45 = .ok (.iload_n 1, 1) := by decide +kernel
theorem dX7_canBe_46 : decode prog_9_method_14_code 46 = .ok (.iload_n 2, 1) := by decide +kernel
theorem dX7_canBe_47 : decode prog_9_method_14_code 47 = .ok (.iastore, 1) := by decide +kernel
theorem dX7_canBe_48 : decode prog_9_method_14_code 48 = .ok (.aload_n 0, 1) := by decide +kernel
theorem dX7_canBe_49 : decode prog_9_method_14_code 49 = .ok (.getfield 41, 3) := by decide +kernel
theorem dX7_canBe_52 : decode prog_9_method_14_code 52 = .ok (.iload_n 1, 1) := by decide +kernel
theorem dX7_canBe_53 : decode prog_9_method_14_code 53 = .ok (.iaload, 1) := by decide +kernel
theorem dX7_canBe_54 : decode prog_9_method_14_code 54 = .ok (.ireturn, 1) := by decide +kernel
theorem rX7_canBe_0 {d : Nat} {h : Hp} {Q : Option PV → Hp → Prop} {st : List PV}{t : List (Option PV)} {v : Nat} : WP d mX7_canBe 0 (some (.inr (.inr v)) :: t) st h Q = WP d mX7_canBe 1 (some (.inr (.inr v)) :: t) (.inr (.inr v) :: st) h Q := WP_step dX7_canBe_0 rfl rfl rfl
theorem rX7_canBe_1 {d : Nat} {h : Hp} {Q : Option PV → Hp → Prop} {st : List PV}{ls : List (Option PV)}{a : Nat} : WP d mX7_canBe 1 ls (.inr (.inr a) :: st) h Q = ((hK h a).1 = 7 ∧ WP d mX7_canBe 4 ls (.inr (.inr (hR h a 9)) :: st) h Q) := R_get2 dX7_canBe_1 rfl
theorem rX7_canBe_4 {d : Nat} {h : Hp} {Q : Option PV → Hp → Prop} {st : List PV}{x0 : Option PV} {t : List (Option PV)} {v : Int} : WP d mX7_canBe 4 (x0 :: some (.inl v) :: t) st h Q = WP d mX7_canBe 5 (x0 :: some (.inl v) :: t) (.inl v :: st) h Q := WP_step dX7_canBe_4 rfl rfl rfl
theorem rX7_canBe_5 {d : Nat} {h : Hp} {Q : Option PV → Hp → Prop} {st : List PV}{ls : List (Option PV)}{a : Nat} {z : Int} : WP d mX7_canBe 5 ls (.inl z :: .inr (.inr a) :: st) h Q = ((hK h a).1 = 21 ∧ 0 ≤ z ∧ z < (hK h a).2 ∧ WP d mX7_canBe 6 ls (.inl (hI h a z.toNat) :: st) h Q) := R_iald dX7_canBe_5
theorem rX7_canBe_6 {d : Nat} {h : Hp} {Q : Option PV → Hp → Prop} {st : List PV}{ls : List (Option PV)} : WP d mX7_canBe 6 ls st h Q = WP d mX7_canBe 7 ls (.inl (-1) :: st) h Q := WP_step dX7_canBe_6 rfl rfl rfl
theorem rX7_canBe_7 {d : Nat} {h : Hp} {Q : Option PV → Hp → Prop} {st : List PV}{ls : List (Option PV)}{a b : Int} : WP d mX7_canBe 7 ls (.inl b :: .inl a :: st) h Q = (if a = b then WP d mX7_canBe 10 ls st h Q else WP d mX7_canBe 48 ls st h Q) := R_icmp_ne dX7_canBe_7 (by decide)
theorem rX7_canBe_10 {d : Nat} {h : Hp} {Q : Option PV → Hp → Prop} {st : List PV}{t : List (Option PV)} {v : Nat} : WP d mX7_canBe 10 (some (.inr (.inr v)) :: t) st h Q = WP d mX7_canBe 11 (some (.inr (.inr v)) :: t) (.inr (.inr v) :: st) h Q := WP_step dX7_canBe_10 rfl rfl rfl
theorem rX7_canBe_11 {d : Nat} {h : Hp} {Q : Option PV → Hp → Prop} {st : List PV}{x0 : Option PV} {t : List (Option PV)} {v : Int} : WP d mX7_canBe 11 (x0 :: some (.inl v) :: t) st h Q = WP d mX7_canBe 12 (x0 :: some (.inl v) :: t) (.inl v :: st) h Q := WP_step dX7_canBe_11 rfl rfl rfl
theorem rX7_canBe_12 {d : Nat} {h : Hp} {Q : Option PV → Hp → Prop} {ls : List (Option PV)}{v0 : Nat} {v1 : Int} : WP (d + 1) mX7_canBe 12 ls (.inl v1 :: .inr (.inr v0) :: []) h Q = ((hK h v0).1 = 7 ∧ WP d mX7_explore 0 [some (.inr (.inr v0)), some (.inl v1), none, none] [] h (fun r h' => WP (d + 1) mX7_canBe 15 ls (psh r []) h' Q)) := R_callV (st := .inl v1 :: .inr (.inr v0) :: []) (M := mX7_canBe) (pc := 12) (kd := 0) (n := 2) (M' := mX7_explore) (as := [.inl v1, .inr (.inr v0)]) (rest := []) (en := [some (.inr (.inr v0)), some (.inl v1), none, none]) dX7_canBe_12 rfl (Nat.le_of_ble_eq_true rfl) (Nat.le_of_ble_eq_true rfl) rfl rfl (Nat.le_of_ble_eq_true rfl) rfl rfl rfl
theorem rX7_canBe_15 {d : Nat} {h : Hp} {Q : Option PV → Hp → Prop} {st : List PV}{ls : List (Option PV)} : WP d mX7_canBe 15 ls st h Q = WP d mX7_canBe 16 ls (.inl (0) :: st) h Q := WP_step dX7_canBe_15 rfl rfl rfl
theorem rX7_canBe_16 {d : Nat} {h : Hp} {Q : Option PV → Hp → Prop} {st : List PV}{x0 x1 x2 x3 : Option PV} {v : Int} : WP d mX7_canBe 16 [x0, x1, x2, x3] (.inl v :: st) h Q = WP d mX7_canBe 17 [x0, x1, some (.inl v), x3] st h Q := WP_step dX7_canBe_16 rfl rfl rfl
theorem rX7_canBe_17 {d : Nat} {h : Hp} {Q : Option PV → Hp → Prop} {st : List PV}{ls : List (Option PV)} : WP d mX7_canBe 17 ls st h Q = WP d mX7_canBe 18 ls (.inl (0) :: st) h Q := WP_step dX7_canBe_17 rfl rfl rfl
theorem rX7_canBe_18 {d : Nat} {h : Hp} {Q : Option PV → Hp → Prop} {st : List PV}{x0 x1 x2 x3 : Option PV} {v : Int} : WP d mX7_canBe 18 [x0, x1, x2, x3] (.inl v :: st) h Q = WP d mX7_canBe 19 [x0, x1, x2, some (.inl v)] st h Q := WP_step dX7_canBe_18 rfl rfl rfl
theorem rX7_canBe_19 {d : Nat} {h : Hp} {Q : Option PV → Hp → Prop} {st : List PV}{x0 x1 x2 : Option PV} {t : List (Option PV)} {v : Int} : WP d mX7_canBe 19 (x0 :: x1 :: x2 :: some (.inl v) :: t) st h Q = WP d mX7_canBe 20 (x0 :: x1 :: x2 :: some (.inl v) :: t) (.inl v :: st) h Q := WP_step dX7_canBe_19 rfl rfl rfl
theorem rX7_canBe_20 {d : Nat} {h : Hp} {Q : Option PV → Hp → Prop} {st : List PV}{t : List (Option PV)} {v : Nat} : WP d mX7_canBe 20 (some (.inr (.inr v)) :: t) st h Q = WP d mX7_canBe 21 (some (.inr (.inr v)) :: t) (.inr (.inr v) :: st) h Q := WP_step dX7_canBe_20 rfl rfl rfl
theorem rX7_canBe_21 {d : Nat} {h : Hp} {Q : Option PV → Hp → Prop} {st : List PV}{ls : List (Option PV)}{a : Nat} : WP d mX7_canBe 21 ls (.inr (.inr a) :: st) h Q = ((hK h a).1 = 7 ∧ WP d mX7_canBe 24 ls (.inl (hI h a 12) :: st) h Q) := R_get0 dX7_canBe_21 rfl
theorem rX7_canBe_24 {d : Nat} {h : Hp} {Q : Option PV → Hp → Prop} {st : List PV}{ls : List (Option PV)}{a b : Int} : WP d mX7_canBe 24 ls (.inl b :: .inl a :: st) h Q = (if a < b then WP d mX7_canBe 27 ls st h Q else WP d mX7_canBe 41 ls st h Q) := R_icmp_ge dX7_canBe_24 (by decide)
theorem rX7_canBe_27 {d : Nat} {h : Hp} {Q : Option PV → Hp → Prop} {st : List PV}{x0 x1 : Option PV} {t : List (Option PV)} {v : Int} : WP d mX7_canBe 27 (x0 :: x1 :: some (.inl v) :: t) st h Q = WP d mX7_canBe 28 (x0 :: x1 :: some (.inl v) :: t) (.inl v :: st) h Q := WP_step dX7_canBe_27 rfl rfl rfl
theorem rX7_canBe_28 {d : Nat} {h : Hp} {Q : Option PV → Hp → Prop} {st : List PV}{t : List (Option PV)} {v : Nat} : WP d mX7_canBe 28 (some (.inr (.inr v)) :: t) st h Q = WP d mX7_canBe 29 (some (.inr (.inr v)) :: t) (.inr (.inr v) :: st) h Q := WP_step dX7_canBe_28 rfl rfl rfl
theorem rX7_canBe_29 {d : Nat} {h : Hp} {Q : Option PV → Hp → Prop} {st : List PV}{x0 x1 x2 : Option PV} {t : List (Option PV)} {v : Int} : WP d mX7_canBe 29 (x0 :: x1 :: x2 :: some (.inl v) :: t) st h Q = WP d mX7_canBe 30 (x0 :: x1 :: x2 :: some (.inl v) :: t) (.inl v :: st) h Q := WP_step dX7_canBe_29 rfl rfl rfl
theorem rX7_canBe_30 {d : Nat} {h : Hp} {Q : Option PV → Hp → Prop} {ls : List (Option PV)}{r0 : PV}{v0 : Nat} {v1 : Int} : WP (d + 1) mX7_canBe 30 ls (.inl v1 :: .inr (.inr v0) :: [r0]) h Q = ((hK h v0).1 = 7 ∧ WP d mX7_thingsAt 0 [some (.inr (.inr v0)), some (.inl v1)] [] h (fun r h' => WP (d + 1) mX7_canBe 33 ls (psh r [r0]) h' Q)) := R_callV (st := .inl v1 :: .inr (.inr v0) :: [r0]) (M := mX7_canBe) (pc := 30) (kd := 0) (n := 2) (M' := mX7_thingsAt) (as := [.inl v1, .inr (.inr v0)]) (rest := [r0]) (en := [some (.inr (.inr v0)), some (.inl v1)]) dX7_canBe_30 rfl (Nat.le_of_ble_eq_true rfl) (Nat.le_of_ble_eq_true rfl) rfl rfl (Nat.le_of_ble_eq_true rfl) rfl rfl rfl
theorem rX7_canBe_33 {d : Nat} {h : Hp} {Q : Option PV → Hp → Prop} {st : List PV}{ls : List (Option PV)}{a b : Int} : WP d mX7_canBe 33 ls (.inl b :: .inl a :: st) h Q = WP d mX7_canBe 34 ls (.inl (ior a b) :: st) h Q := WP_step dX7_canBe_33 rfl rfl rfl
theorem rX7_canBe_34 {d : Nat} {h : Hp} {Q : Option PV → Hp → Prop} {st : List PV}{x0 x1 x2 x3 : Option PV} {v : Int} : WP d mX7_canBe 34 [x0, x1, x2, x3] (.inl v :: st) h Q = WP d mX7_canBe 35 [x0, x1, some (.inl v), x3] st h Q := WP_step dX7_canBe_34 rfl rfl rfl
theorem rX7_canBe_35 {d : Nat} {h : Hp} {Q : Option PV → Hp → Prop} {st : List PV}{x0 x1 x2 : Option PV} {t : List (Option PV)} {v : Int} : WP d mX7_canBe 35 (x0 :: x1 :: x2 :: some (.inl v) :: t) st h Q = WP d mX7_canBe 38 (x0 :: x1 :: x2 :: some (.inl (w32 (v + 1))) :: t) st h Q := WP_step dX7_canBe_35 rfl rfl rfl
theorem rX7_canBe_38 {d : Nat} {h : Hp} {Q : Option PV → Hp → Prop} {st : List PV}{ls : List (Option PV)} : WP d mX7_canBe 38 ls st h Q = WP d mX7_canBe 19 ls st h Q := R_goto dX7_canBe_38 (by decide)
theorem rX7_canBe_41 {d : Nat} {h : Hp} {Q : Option PV → Hp → Prop} {st : List PV}{t : List (Option PV)} {v : Nat} : WP d mX7_canBe 41 (some (.inr (.inr v)) :: t) st h Q = WP d mX7_canBe 42 (some (.inr (.inr v)) :: t) (.inr (.inr v) :: st) h Q := WP_step dX7_canBe_41 rfl rfl rfl
theorem rX7_canBe_42 {d : Nat} {h : Hp} {Q : Option PV → Hp → Prop} {st : List PV}{ls : List (Option PV)}{a : Nat} : WP d mX7_canBe 42 ls (.inr (.inr a) :: st) h Q = ((hK h a).1 = 7 ∧ WP d mX7_canBe 45 ls (.inr (.inr (hR h a 9)) :: st) h Q) := R_get2 dX7_canBe_42 rfl
theorem rX7_canBe_45 {d : Nat} {h : Hp} {Q : Option PV → Hp → Prop} {st : List PV}{x0 : Option PV} {t : List (Option PV)} {v : Int} : WP d mX7_canBe 45 (x0 :: some (.inl v) :: t) st h Q = WP d mX7_canBe 46 (x0 :: some (.inl v) :: t) (.inl v :: st) h Q := WP_step dX7_canBe_45 rfl rfl rfl
theorem rX7_canBe_46 {d : Nat} {h : Hp} {Q : Option PV → Hp → Prop} {st : List PV}{x0 x1 : Option PV} {t : List (Option PV)} {v : Int} : WP d mX7_canBe 46 (x0 :: x1 :: some (.inl v) :: t) st h Q = WP d mX7_canBe 47 (x0 :: x1 :: some (.inl v) :: t) (.inl v :: st) h Q := WP_step dX7_canBe_46 rfl rfl rfl
theorem rX7_canBe_47 {d : Nat} {h : Hp} {Q : Option PV → Hp → Prop} {st : List PV}{ls : List (Option PV)}{a : Nat} {z v : Int} : WP d mX7_canBe 47 ls (.inl v :: .inl z :: .inr (.inr a) :: st) h Q = (200 ≤ a ∧ (hK h a).1 = 21 ∧ 0 ≤ z ∧ z < (hK h a).2 ∧ WP d mX7_canBe 48 ls st (wI h a z.toNat v) Q) := R_iast dX7_canBe_47
theorem rX7_canBe_48 {d : Nat} {h : Hp} {Q : Option PV → Hp → Prop} {st : List PV}{t : List (Option PV)} {v : Nat} : WP d mX7_canBe 48 (some (.inr (.inr v)) :: t) st h Q = WP d mX7_canBe 49 (some (.inr (.inr v)) :: t) (.inr (.inr v) :: st) h Q := WP_step dX7_canBe_48 rfl rfl rfl
theorem rX7_canBe_49 {d : Nat} {h : Hp} {Q : Option PV → Hp → Prop} {st : List PV}{ls : List (Option PV)}{a : Nat} : WP d mX7_canBe 49 ls (.inr (.inr a) :: st) h Q = ((hK h a).1 = 7 ∧ WP d mX7_canBe 52 ls (.inr (.inr (hR h a 9)) :: st) h Q) := R_get2 dX7_canBe_49 rfl
theorem rX7_canBe_52 {d : Nat} {h : Hp} {Q : Option PV → Hp → Prop} {st : List PV}{x0 : Option PV} {t : List (Option PV)} {v : Int} : WP d mX7_canBe 52 (x0 :: some (.inl v) :: t) st h Q = WP d mX7_canBe 53 (x0 :: some (.inl v) :: t) (.inl v :: st) h Q := WP_step dX7_canBe_52 rfl rfl rfl
theorem rX7_canBe_53 {d : Nat} {h : Hp} {Q : Option PV → Hp → Prop} {st : List PV}{ls : List (Option PV)}{a : Nat} {z : Int} : WP d mX7_canBe 53 ls (.inl z :: .inr (.inr a) :: st) h Q = ((hK h a).1 = 21 ∧ 0 ≤ z ∧ z < (hK h a).2 ∧ WP d mX7_canBe 54 ls (.inl (hI h a z.toNat) :: st) h Q) := R_iald dX7_canBe_53
theorem rX7_canBe_54 {d : Nat} {h : Hp} {Q : Option PV → Hp → Prop} {ls : List (Option PV)}{z : Int} : WP d mX7_canBe 54 ls [.inl z] h Q = Q (some (.inl z)) h := R_iret dX7_canBe_54 rfl
