theorem dX10_init_0 : decode prog_12_method_1_code 0 = .ok (.aload_n 0, 1) := by decide +kernel
theorem dX10_init_1 : decode prog_12_method_1_code 1 = .ok (.invokespecial 3, 3) := by decide +kernel
theorem dX10_init_4 : decode prog_12_method_1_code 4 = .ok (.aload_n 0, 1) := by decide +kernel
theorem dX10_init_5 : decode prog_12_method_1_code 5 = .ok (.bipush 40, 2) := by decide +kernel
theorem dX10_init_7 : decode prog_12_method_1_code 7 = .ok (.newarray .long, 2) := by decide +kernel
theorem dX10_init_9 : decode prog_12_method_1_code 9 = .ok (.putfield 9, 3) := by decide +kernel
theorem dX10_init_12 : decode prog_12_method_1_code 12 = .ok (.aload_n 0, 1) := by decide +kernel
theorem dX10_init_13 : decode prog_12_method_1_code 13 = .ok (.iconst 1, 1) := by decide +kernel
theorem dX10_init_14 : decode prog_12_method_1_code 14 = .ok (.putfield 15, 3) := by decide +kernel
theorem dX10_init_17 : decode prog_12_method_1_code 17 = .ok (.return_, 1) := by decide +kernel
theorem rX10_init_0 {d : Nat} {h : Hp} {Q : Option PV → Hp → Prop} {st : List PV}{t : List (Option PV)} {v : Nat} : WP d mX10_init 0 (some (.inr (.inr v)) :: t) st h Q = WP d mX10_init 1 (some (.inr (.inr v)) :: t) (.inr (.inr v) :: st) h Q := WP_step dX10_init_0 rfl rfl rfl
theorem rX10_init_1 {d : Nat} {h : Hp} {Q : Option PV → Hp → Prop} {ls : List (Option PV)}{a : Nat} : WP d mX10_init 1 ls (.inr (.inr a) :: []) h Q = (200 ≤ a ∧ WP d mX10_init 4 ls [] h Q) := R_obj (n := 1) (M' := mX0_init) dX10_init_1 rfl rfl
theorem rX10_init_4 {d : Nat} {h : Hp} {Q : Option PV → Hp → Prop} {st : List PV}{t : List (Option PV)} {v : Nat} : WP d mX10_init 4 (some (.inr (.inr v)) :: t) st h Q = WP d mX10_init 5 (some (.inr (.inr v)) :: t) (.inr (.inr v) :: st) h Q := WP_step dX10_init_4 rfl rfl rfl
theorem rX10_init_5 {d : Nat} {h : Hp} {Q : Option PV → Hp → Prop} {st : List PV}{ls : List (Option PV)} : WP d mX10_init 5 ls st h Q = WP d mX10_init 7 ls (.inl (40) :: st) h Q := WP_step dX10_init_5 rfl rfl rfl
theorem rX10_init_7 {d : Nat} {h : Hp} {Q : Option PV → Hp → Prop} {st : List PV}{ls : List (Option PV)}{z : Int} : WP d mX10_init 7 ls (.inl z :: st) h Q = ((0 ≤ z ∧ z ≤ 100000) ∧ WP d mX10_init 9 ls (.inr (.inr (200 + hN h)) :: st) (nw h 22 z.toNat z.toNat) Q) := R_nwa dX10_init_7 rfl (by decide)
theorem rX10_init_9 {d : Nat} {h : Hp} {Q : Option PV → Hp → Prop} {st : List PV}{ls : List (Option PV)}{a : Nat} {v : Nat} : WP d mX10_init 9 ls (.inr (.inr v) :: .inr (.inr a) :: st) h Q = ((hK h a).1 = 10 ∧ 200 ≤ a ∧ WP d mX10_init 12 ls st (wR h a 0 v) Q) := R_put2 dX10_init_9 rfl
theorem rX10_init_12 {d : Nat} {h : Hp} {Q : Option PV → Hp → Prop} {st : List PV}{t : List (Option PV)} {v : Nat} : WP d mX10_init 12 (some (.inr (.inr v)) :: t) st h Q = WP d mX10_init 13 (some (.inr (.inr v)) :: t) (.inr (.inr v) :: st) h Q := WP_step dX10_init_12 rfl rfl rfl
theorem rX10_init_13 {d : Nat} {h : Hp} {Q : Option PV → Hp → Prop} {st : List PV}{ls : List (Option PV)} : WP d mX10_init 13 ls st h Q = WP d mX10_init 14 ls (.inl (1) :: st) h Q := WP_step dX10_init_13 rfl rfl rfl
theorem rX10_init_14 {d : Nat} {h : Hp} {Q : Option PV → Hp → Prop} {st : List PV}{ls : List (Option PV)}{a : Nat} {v : Int} : WP d mX10_init 14 ls (.inl v :: .inr (.inr a) :: st) h Q = ((hK h a).1 = 10 ∧ 200 ≤ a ∧ (v = 0 ∨ v = 1) ∧ WP d mX10_init 17 ls st (wI h a 1 v) Q) := R_putZ dX10_init_14 rfl
theorem rX10_init_17 {d : Nat} {h : Hp} {Q : Option PV → Hp → Prop} {ls : List (Option PV)} : WP d mX10_init 17 ls [] h Q = Q none h := R_vret dX10_init_17 rfl
theorem dX10_begin_0 : decode prog_12_method_2_code 0 = .ok (.aload_n 0, 1) := by decide +kernel
theorem dX10_begin_1 : decode prog_12_method_2_code 1 = .ok (.iconst 0, 1) := by decide +kernel
theorem dX10_begin_2 : decode prog_12_method_2_code 2 = .ok (.putfield 15, 3) := by decide +kernel
theorem dX10_begin_5 : decode prog_12_method_2_code 5 = .ok (.aload_n 0, 1) := by decide +kernel
theorem dX10_begin_6 : decode prog_12_method_2_code 6 = .ok (.iload_n 1, 1) := by decide +kernel
theorem dX10_begin_7 : decode prog_12_method_2_code 7 = .ok (.putfield 19, 3) := by decide +kernel
theorem dX10_begin_10 : decode prog_12_method_2_code 10 = .ok (.aload_n 0, 1) := by decide +kernel
theorem dX10_begin_11 : decode prog_12_method_2_code 11 = .ok (.iload_n 2, 1) := by decide +kernel
theorem dX10_begin_12 : decode prog_12_method_2_code 12 = .ok (.putfield 23, 3) := by decide +kernel
theorem dX10_begin_15 : decode prog_12_method_2_code 15 = .ok (.aload_n 0, 1) := by decide +kernel
theorem dX10_begin_16 : decode prog_12_method_2_code 16 = .ok (.getfield 9, 3) := by decide +kernel
theorem dX10_begin_19 : decode prog_12_method_2_code 19 = .ok (.lconst 0, 1) := by decide +kernel
theorem dX10_begin_20 : decode prog_12_method_2_code 20 = .ok (.invokestatic 26, 3) := by decide +kernel
theorem dX10_begin_23 : decode prog_12_method_2_code 23 = .ok (.return_, 1) := by decide +kernel
theorem rX10_begin_0 {d : Nat} {h : Hp} {Q : Option PV → Hp → Prop} {st : List PV}{t : List (Option PV)} {v : Nat} : WP d mX10_begin 0 (some (.inr (.inr v)) :: t) st h Q = WP d mX10_begin 1 (some (.inr (.inr v)) :: t) (.inr (.inr v) :: st) h Q := WP_step dX10_begin_0 rfl rfl rfl
theorem rX10_begin_1 {d : Nat} {h : Hp} {Q : Option PV → Hp → Prop} {st : List PV}{ls : List (Option PV)} : WP d mX10_begin 1 ls st h Q = WP d mX10_begin 2 ls (.inl (0) :: st) h Q := WP_step dX10_begin_1 rfl rfl rfl
theorem rX10_begin_2 {d : Nat} {h : Hp} {Q : Option PV → Hp → Prop} {st : List PV}{ls : List (Option PV)}{a : Nat} {v : Int} : WP d mX10_begin 2 ls (.inl v :: .inr (.inr a) :: st) h Q = ((hK h a).1 = 10 ∧ 200 ≤ a ∧ (v = 0 ∨ v = 1) ∧ WP d mX10_begin 5 ls st (wI h a 1 v) Q) := R_putZ dX10_begin_2 rfl
theorem rX10_begin_5 {d : Nat} {h : Hp} {Q : Option PV → Hp → Prop} {st : List PV}{t : List (Option PV)} {v : Nat} : WP d mX10_begin 5 (some (.inr (.inr v)) :: t) st h Q = WP d mX10_begin 6 (some (.inr (.inr v)) :: t) (.inr (.inr v) :: st) h Q := WP_step dX10_begin_5 rfl rfl rfl
theorem rX10_begin_6 {d : Nat} {h : Hp} {Q : Option PV → Hp → Prop} {st : List PV}{x0 : Option PV} {t : List (Option PV)} {v : Int} : WP d mX10_begin 6 (x0 :: some (.inl v) :: t) st h Q = WP d mX10_begin 7 (x0 :: some (.inl v) :: t) (.inl v :: st) h Q := WP_step dX10_begin_6 rfl rfl rfl
theorem rX10_begin_7 {d : Nat} {h : Hp} {Q : Option PV → Hp → Prop} {st : List PV}{ls : List (Option PV)}{a : Nat} {v : Int} : WP d mX10_begin 7 ls (.inl v :: .inr (.inr a) :: st) h Q = ((hK h a).1 = 10 ∧ 200 ≤ a ∧ WP d mX10_begin 10 ls st (wI h a 2 v) Q) := R_put0 dX10_begin_7 rfl
theorem rX10_begin_10 {d : Nat} {h : Hp} {Q : Option PV → Hp → Prop} {st : List PV}{t : List (Option PV)} {v : Nat} : WP d mX10_begin 10 (some (.inr (.inr v)) :: t) st h Q = WP d mX10_begin 11 (some (.inr (.inr v)) :: t) (.inr (.inr v) :: st) h Q := WP_step dX10_begin_10 rfl rfl rfl
theorem rX10_begin_11 {d : Nat} {h : Hp} {Q : Option PV → Hp → Prop} {st : List PV}{x0 x1 : Option PV} {t : List (Option PV)} {v : Int} : WP d mX10_begin 11 (x0 :: x1 :: some (.inl v) :: t) st h Q = WP d mX10_begin 12 (x0 :: x1 :: some (.inl v) :: t) (.inl v :: st) h Q := WP_step dX10_begin_11 rfl rfl rfl
theorem rX10_begin_12 {d : Nat} {h : Hp} {Q : Option PV → Hp → Prop} {st : List PV}{ls : List (Option PV)}{a : Nat} {v : Int} : WP d mX10_begin 12 ls (.inl v :: .inr (.inr a) :: st) h Q = ((hK h a).1 = 10 ∧ 200 ≤ a ∧ WP d mX10_begin 15 ls st (wI h a 3 v) Q) := R_put0 dX10_begin_12 rfl
theorem rX10_begin_15 {d : Nat} {h : Hp} {Q : Option PV → Hp → Prop} {st : List PV}{t : List (Option PV)} {v : Nat} : WP d mX10_begin 15 (some (.inr (.inr v)) :: t) st h Q = WP d mX10_begin 16 (some (.inr (.inr v)) :: t) (.inr (.inr v) :: st) h Q := WP_step dX10_begin_15 rfl rfl rfl
theorem rX10_begin_16 {d : Nat} {h : Hp} {Q : Option PV → Hp → Prop} {st : List PV}{ls : List (Option PV)}{a : Nat} : WP d mX10_begin 16 ls (.inr (.inr a) :: st) h Q = ((hK h a).1 = 10 ∧ WP d mX10_begin 19 ls (.inr (.inr (hR h a 0)) :: st) h Q) := R_get2 dX10_begin_16 rfl
theorem rX10_begin_19 {d : Nat} {h : Hp} {Q : Option PV → Hp → Prop} {st : List PV}{ls : List (Option PV)} : WP d mX10_begin 19 ls st h Q = WP d mX10_begin 20 ls (.inr (.inl 0) :: st) h Q := WP_step dX10_begin_19 rfl rfl rfl
theorem rX10_begin_20 {d : Nat} {h : Hp} {Q : Option PV → Hp → Prop} {ls : List (Option PV)}{v0 : Nat} {v1 : Int} : WP (d + 1) mX10_begin 20 ls (.inr (.inl v1) :: .inr (.inr v0) :: []) h Q = WP d mJ7_fill_d0a16 0 [some (.inr (.inr v0)), some (.inr (.inl v1)), none, none, none] [] h (fun r h' => WP (d + 1) mX10_begin 23 ls (psh r []) h' Q) := R_callS (st := .inr (.inl v1) :: .inr (.inr v0) :: []) (M := mX10_begin) (pc := 20) (kd := 4) (n := 2) (M' := mJ7_fill_d0a16) (as := [.inr (.inl v1), .inr (.inr v0)]) (rest := []) (en := [some (.inr (.inr v0)), some (.inr (.inl v1)), none, none, none]) dX10_begin_20 rfl (Or.inl rfl) (Nat.le_of_ble_eq_true rfl) rfl (Nat.le_of_ble_eq_true rfl) rfl rfl rfl
theorem rX10_begin_23 {d : Nat} {h : Hp} {Q : Option PV → Hp → Prop} {ls : List (Option PV)} : WP d mX10_begin 23 ls [] h Q = Q none h := R_vret dX10_begin_23 rfl
theorem dX10_put_0 : decode prog_12_method_3_code 0 = .ok (.aload_n 0, 1) := by decide +kernel
theorem dX10_put_1 : decode prog_12_method_3_code 1 = .ok (.getfield 19, 3) := by decide +kernel
theorem dX10_put_4 : decode prog_12_method_3_code 4 = .ok (.tableswitch 66 0 2 #[28, 41, 54], 28) := by decide +kernel
theorem dX10_put_32 : decode prog_12_method_3_code 32 = .ok (.aload_n 0, 1) := by decide +kernel
theorem dX10_put_33 : decode prog_12_method_3_code 33 = .ok (.getfield 9, 3) := by decide +kernel
theorem dX10_put_36 : decode prog_12_method_3_code 36 = .ok (.iload_n 1, 1) := by decide +kernel
theorem dX10_put_37 : decode prog_12_method_3_code 37 = .ok (.lload_n 2, 1) := by decide +kernel
theorem dX10_put_38 : decode prog_12_method_3_code 38 = .ok (.l2i, 1) := by decide +kernel
theorem dX10_put_39 : decode prog_12_method_3_code 39 = .ok (.i2b, 1) := by decide +kernel
theorem dX10_put_40 : decode prog_12_method_3_code 40 = .ok (.i2l, 1) := by decide +kernel
theorem dX10_put_41 : decode prog_12_method_3_code 41 = .ok (.lastore, 1) := by decide +kernel
theorem dX10_put_42 : decode prog_12_method_3_code 42 = .ok (.goto 35, 3) := by decide +kernel
theorem dX10_put_45 : decode prog_12_method_3_code 45 = .ok (.aload_n 0, 1) := by decide +kernel
theorem dX10_put_46 : decode prog_12_method_3_code 46 = .ok (.getfield 9, 3) := by decide +kernel
theorem dX10_put_49 : decode prog_12_method_3_code 49 = .ok (.iload_n 1, 1) := by decide +kernel
theorem dX10_put_50 : decode prog_12_method_3_code 50 = .ok (.lload_n 2, 1) := by decide +kernel
theorem dX10_put_51 : decode prog_12_method_3_code 51 = .ok (.l2i, 1) := by decide +kernel
theorem dX10_put_52 : decode prog_12_method_3_code 52 = .ok (.i2s, 1) := by decide +kernel
theorem dX10_put_53 : decode prog_12_method_3_code 53 = .ok (.i2l, 1) := by decide +kernel
theorem dX10_put_54 : decode prog_12_method_3_code 54 = .ok (.lastore, 1) := by decide +kernel
theorem dX10_put_55 : decode prog_12_method_3_code 55 = .ok (.goto 22, 3) := by decide +kernel
theorem dX10_put_58 : decode prog_12_method_3_code 58 = .ok (.aload_n 0, 1) := by decide +kernel
theorem dX10_put_59 : decode prog_12_method_3_code 59 = .ok (.getfield 9, 3) := by decide +kernel
theorem dX10_put_62 : decode prog_12_method_3_code 62 = .ok (.iload_n 1, 1) := by decide +kernel
theorem dX10_put_63 : decode prog_12_method_3_code 63 = .ok (.lload_n 2, 1) := by decide +kernel
theorem dX10_put_64 : decode prog_12_method_3_code 64 = .ok (.l2i, 1) := by decide +kernel
theorem dX10_put_65 : decode prog_12_method_3_code 65 = .ok (.i2l, 1) := by decide +kernel
theorem dX10_put_66 : decode prog_12_method_3_code 66 = .ok (.lastore, 1) := by decide +kernel
theorem dX10_put_67 : decode prog_12_method_3_code 67 = .ok (.goto 10, 3) := by decide +kernel
theorem dX10_put_70 : decode prog_12_method_3_code 70 = .ok (.aload_n 0, 1) := by decide +kernel
theorem dX10_put_71 : decode prog_12_method_3_code 71 = .ok (.getfield 9, 3) := by decide +kernel
theorem dX10_put_74 : decode prog_12_method_3_code 74 = .ok (.iload_n 1, 1) := by decide +kernel
theorem dX10_put_75 : decode prog_12_method_3_code 75 = .ok (.lload_n 2, 1) := by decide +kernel
theorem dX10_put_76 : decode prog_12_method_3_code 76 = .ok (.lastore, 1) := by decide +kernel
theorem dX10_put_77 : decode prog_12_method_3_code 77 = .ok (.aload_n 0, 1) := by decide +kernel
theorem dX10_put_78 : decode prog_12_method_3_code 78 = .ok (.getfield 9, 3) := by decide +kernel
theorem dX10_put_81 : decode prog_12_method_3_code 81 = .ok (.iload_n 1, 1) := by decide +kernel
theorem dX10_put_82 : decode prog_12_method_3_code 82 = .ok (.laload, 1) := by decide +kernel
theorem dX10_put_83 : decode prog_12_method_3_code 83 = .ok (.lreturn, 1) := by decide +kernel
theorem rX10_put_0 {d : Nat} {h : Hp} {Q : Option PV → Hp → Prop} {st : List PV}{t : List (Option PV)} {v : Nat} : WP d mX10_put 0 (some (.inr (.inr v)) :: t) st h Q = WP d mX10_put 1 (some (.inr (.inr v)) :: t) (.inr (.inr v) :: st) h Q := WP_step dX10_put_0 rfl rfl rfl
theorem rX10_put_1 {d : Nat} {h : Hp} {Q : Option PV → Hp → Prop} {st : List PV}{ls : List (Option PV)}{a : Nat} : WP d mX10_put 1 ls (.inr (.inr a) :: st) h Q = ((hK h a).1 = 10 ∧ WP d mX10_put 4 ls (.inl (hI h a 2) :: st) h Q) := R_get0 dX10_put_1 rfl
theorem rX10_put_4 {d : Nat} {h : Hp} {Q : Option PV → Hp → Prop} {st : List PV}{ls : List (Option PV)}{a : Int} : WP d mX10_put 4 ls (.inl a :: st) h Q = WP d mX10_put (tabT 4 66 0 2 [28, 41, 54] a) ls st h Q := R_tab dX10_put_4 (by decide) (by decide) (by decide)
theorem rX10_put_32 {d : Nat} {h : Hp} {Q : Option PV → Hp → Prop} {st : List PV}{t : List (Option PV)} {v : Nat} : WP d mX10_put 32 (some (.inr (.inr v)) :: t) st h Q = WP d mX10_put 33 (some (.inr (.inr v)) :: t) (.inr (.inr v) :: st) h Q := WP_step dX10_put_32 rfl rfl rfl
theorem rX10_put_33 {d : Nat} {h : Hp} {Q : Option PV → Hp → Prop} {st : List PV}{ls : List (Option PV)}{a : Nat} : WP d mX10_put 33 ls (.inr (.inr a) :: st) h Q = ((hK h a).1 = 10 ∧ WP d mX10_put 36 ls (.inr (.inr (hR h a 0)) :: st) h Q) := R_get2 dX10_put_33 rfl
theorem rX10_put_36 {d : Nat} {h : Hp} {Q : Option PV → Hp → Prop} {st : List PV}{x0 : Option PV} {t : List (Option PV)} {v : Int} : WP d mX10_put 36 (x0 :: some (.inl v) :: t) st h Q = WP d mX10_put 37 (x0 :: some (.inl v) :: t) (.inl v :: st) h Q := WP_step dX10_put_36 rfl rfl rfl
theorem rX10_put_37 {d : Nat} {h : Hp} {Q : Option PV → Hp → Prop} {st : List PV}{x0 x1 : Option PV} {t : List (Option PV)} {v : Int} : WP d mX10_put 37 (x0 :: x1 :: some (.inr (.inl v)) :: none :: t) st h Q = WP d mX10_put 38 (x0 :: x1 :: some (.inr (.inl v)) :: none :: t) (.inr (.inl v) :: st) h Q := WP_step dX10_put_37 rfl rfl rfl
theorem rX10_put_38 {d : Nat} {h : Hp} {Q : Option PV → Hp → Prop} {st : List PV}{ls : List (Option PV)}{a : Int} : WP d mX10_put 38 ls (.inr (.inl a) :: st) h Q = WP d mX10_put 39 ls (.inl (w32 a) :: st) h Q := WP_step dX10_put_38 rfl rfl rfl
theorem rX10_put_39 {d : Nat} {h : Hp} {Q : Option PV → Hp → Prop} {st : List PV}{ls : List (Option PV)}{a : Int} : WP d mX10_put 39 ls (.inl a :: st) h Q = WP d mX10_put 40 ls (.inl (w8 a) :: st) h Q := WP_step dX10_put_39 rfl rfl rfl
theorem rX10_put_40 {d : Nat} {h : Hp} {Q : Option PV → Hp → Prop} {st : List PV}{ls : List (Option PV)}{a : Int} : WP d mX10_put 40 ls (.inl a :: st) h Q = WP d mX10_put 41 ls (.inr (.inl a) :: st) h Q := WP_step dX10_put_40 rfl rfl rfl
theorem rX10_put_41 {d : Nat} {h : Hp} {Q : Option PV → Hp → Prop} {st : List PV}{ls : List (Option PV)}{a : Nat} {z v : Int} : WP d mX10_put 41 ls (.inr (.inl v) :: .inl z :: .inr (.inr a) :: st) h Q = (200 ≤ a ∧ (hK h a).1 = 22 ∧ 0 ≤ z ∧ z < (hK h a).2 ∧ WP d mX10_put 42 ls st (wJ h a z.toNat v) Q) := R_last dX10_put_41
theorem rX10_put_42 {d : Nat} {h : Hp} {Q : Option PV → Hp → Prop} {st : List PV}{ls : List (Option PV)} : WP d mX10_put 42 ls st h Q = WP d mX10_put 77 ls st h Q := R_goto dX10_put_42 (by decide)
theorem rX10_put_45 {d : Nat} {h : Hp} {Q : Option PV → Hp → Prop} {st : List PV}{t : List (Option PV)} {v : Nat} : WP d mX10_put 45 (some (.inr (.inr v)) :: t) st h Q = WP d mX10_put 46 (some (.inr (.inr v)) :: t) (.inr (.inr v) :: st) h Q := WP_step dX10_put_45 rfl rfl rfl
theorem rX10_put_46 {d : Nat} {h : Hp} {Q : Option PV → Hp → Prop} {st : List PV}{ls : List (Option PV)}{a : Nat} : WP d mX10_put 46 ls (.inr (.inr a) :: st) h Q = ((hK h a).1 = 10 ∧ WP d mX10_put 49 ls (.inr (.inr (hR h a 0)) :: st) h Q) := R_get2 dX10_put_46 rfl
theorem rX10_put_49 {d : Nat} {h : Hp} {Q : Option PV → Hp → Prop} {st : List PV}{x0 : Option PV} {t : List (Option PV)} {v : Int} : WP d mX10_put 49 (x0 :: some (.inl v) :: t) st h Q = WP d mX10_put 50 (x0 :: some (.inl v) :: t) (.inl v :: st) h Q := WP_step dX10_put_49 rfl rfl rfl
theorem rX10_put_50 {d : Nat} {h : Hp} {Q : Option PV → Hp → Prop} {st : List PV}{x0 x1 : Option PV} {t : List (Option PV)} {v : Int} : WP d mX10_put 50 (x0 :: x1 :: some (.inr (.inl v)) :: none :: t) st h Q = WP d mX10_put 51 (x0 :: x1 :: some (.inr (.inl v)) :: none :: t) (.inr (.inl v) :: st) h Q := WP_step dX10_put_50 rfl rfl rfl
theorem rX10_put_51 {d : Nat} {h : Hp} {Q : Option PV → Hp → Prop} {st : List PV}{ls : List (Option PV)}{a : Int} : WP d mX10_put 51 ls (.inr (.inl a) :: st) h Q = WP d mX10_put 52 ls (.inl (w32 a) :: st) h Q := WP_step dX10_put_51 rfl rfl rfl
theorem rX10_put_52 {d : Nat} {h : Hp} {Q : Option PV → Hp → Prop} {st : List PV}{ls : List (Option PV)}{a : Int} : WP d mX10_put 52 ls (.inl a :: st) h Q = WP d mX10_put 53 ls (.inl (w16 a) :: st) h Q := WP_step dX10_put_52 rfl rfl rfl
theorem rX10_put_53 {d : Nat} {h : Hp} {Q : Option PV → Hp → Prop} {st : List PV}{ls : List (Option PV)}{a : Int} : WP d mX10_put 53 ls (.inl a :: st) h Q = WP d mX10_put 54 ls (.inr (.inl a) :: st) h Q := WP_step dX10_put_53 rfl rfl rfl
theorem rX10_put_54 {d : Nat} {h : Hp} {Q : Option PV → Hp → Prop} {st : List PV}{ls : List (Option PV)}{a : Nat} {z v : Int} : WP d mX10_put 54 ls (.inr (.inl v) :: .inl z :: .inr (.inr a) :: st) h Q = (200 ≤ a ∧ (hK h a).1 = 22 ∧ 0 ≤ z ∧ z < (hK h a).2 ∧ WP d mX10_put 55 ls st (wJ h a z.toNat v) Q) := R_last dX10_put_54
theorem rX10_put_55 {d : Nat} {h : Hp} {Q : Option PV → Hp → Prop} {st : List PV}{ls : List (Option PV)} : WP d mX10_put 55 ls st h Q = WP d mX10_put 77 ls st h Q := R_goto dX10_put_55 (by decide)
theorem rX10_put_58 {d : Nat} {h : Hp} {Q : Option PV → Hp → Prop} {st : List PV}{t : List (Option PV)} {v : Nat} : WP d mX10_put 58 (some (.inr (.inr v)) :: t) st h Q = WP d mX10_put 59 (some (.inr (.inr v)) :: t) (.inr (.inr v) :: st) h Q := WP_step dX10_put_58 rfl rfl rfl
theorem rX10_put_59 {d : Nat} {h : Hp} {Q : Option PV → Hp → Prop} {st : List PV}{ls : List (Option PV)}{a : Nat} : WP d mX10_put 59 ls (.inr (.inr a) :: st) h Q = ((hK h a).1 = 10 ∧ WP d mX10_put 62 ls (.inr (.inr (hR h a 0)) :: st) h Q) := R_get2 dX10_put_59 rfl
theorem rX10_put_62 {d : Nat} {h : Hp} {Q : Option PV → Hp → Prop} {st : List PV}{x0 : Option PV} {t : List (Option PV)} {v : Int} : WP d mX10_put 62 (x0 :: some (.inl v) :: t) st h Q = WP d mX10_put 63 (x0 :: some (.inl v) :: t) (.inl v :: st) h Q := WP_step dX10_put_62 rfl rfl rfl
theorem rX10_put_63 {d : Nat} {h : Hp} {Q : Option PV → Hp → Prop} {st : List PV}{x0 x1 : Option PV} {t : List (Option PV)} {v : Int} : WP d mX10_put 63 (x0 :: x1 :: some (.inr (.inl v)) :: none :: t) st h Q = WP d mX10_put 64 (x0 :: x1 :: some (.inr (.inl v)) :: none :: t) (.inr (.inl v) :: st) h Q := WP_step dX10_put_63 rfl rfl rfl
theorem rX10_put_64 {d : Nat} {h : Hp} {Q : Option PV → Hp → Prop} {st : List PV}{ls : List (Option PV)}{a : Int} : WP d mX10_put 64 ls (.inr (.inl a) :: st) h Q = WP d mX10_put 65 ls (.inl (w32 a) :: st) h Q := WP_step dX10_put_64 rfl rfl rfl
theorem rX10_put_65 {d : Nat} {h : Hp} {Q : Option PV → Hp → Prop} {st : List PV}{ls : List (Option PV)}{a : Int} : WP d mX10_put 65 ls (.inl a :: st) h Q = WP d mX10_put 66 ls (.inr (.inl a) :: st) h Q := WP_step dX10_put_65 rfl rfl rfl
theorem rX10_put_66 {d : Nat} {h : Hp} {Q : Option PV → Hp → Prop} {st : List PV}{ls : List (Option PV)}{a : Nat} {z v : Int} : WP d mX10_put 66 ls (.inr (.inl v) :: .inl z :: .inr (.inr a) :: st) h Q = (200 ≤ a ∧ (hK h a).1 = 22 ∧ 0 ≤ z ∧ z < (hK h a).2 ∧ WP d mX10_put 67 ls st (wJ h a z.toNat v) Q) := R_last dX10_put_66
theorem rX10_put_67 {d : Nat} {h : Hp} {Q : Option PV → Hp → Prop} {st : List PV}{ls : List (Option PV)} : WP d mX10_put 67 ls st h Q = WP d mX10_put 77 ls st h Q := R_goto dX10_put_67 (by decide)
theorem rX10_put_70 {d : Nat} {h : Hp} {Q : Option PV → Hp → Prop} {st : List PV}{t : List (Option PV)} {v : Nat} : WP d mX10_put 70 (some (.inr (.inr v)) :: t) st h Q = WP d mX10_put 71 (some (.inr (.inr v)) :: t) (.inr (.inr v) :: st) h Q := WP_step dX10_put_70 rfl rfl rfl
theorem rX10_put_71 {d : Nat} {h : Hp} {Q : Option PV → Hp → Prop} {st : List PV}{ls : List (Option PV)}{a : Nat} : WP d mX10_put 71 ls (.inr (.inr a) :: st) h Q = ((hK h a).1 = 10 ∧ WP d mX10_put 74 ls (.inr (.inr (hR h a 0)) :: st) h Q) := R_get2 dX10_put_71 rfl
theorem rX10_put_74 {d : Nat} {h : Hp} {Q : Option PV → Hp → Prop} {st : List PV}{x0 : Option PV} {t : List (Option PV)} {v : Int} : WP d mX10_put 74 (x0 :: some (.inl v) :: t) st h Q = WP d mX10_put 75 (x0 :: some (.inl v) :: t) (.inl v :: st) h Q := WP_step dX10_put_74 rfl rfl rfl
theorem rX10_put_75 {d : Nat} {h : Hp} {Q : Option PV → Hp → Prop} {st : List PV}{x0 x1 : Option PV} {t : List (Option PV)} {v : Int} : WP d mX10_put 75 (x0 :: x1 :: some (.inr (.inl v)) :: none :: t) st h Q = WP d mX10_put 76 (x0 :: x1 :: some (.inr (.inl v)) :: none :: t) (.inr (.inl v) :: st) h Q := WP_step dX10_put_75 rfl rfl rfl
theorem rX10_put_76 {d : Nat} {h : Hp} {Q : Option PV → Hp → Prop} {st : List PV}{ls : List (Option PV)}{a : Nat} {z v : Int} : WP d mX10_put 76 ls (.inr (.inl v) :: .inl z :: .inr (.inr a) :: st) h Q = (200 ≤ a ∧ (hK h a).1 = 22 ∧ 0 ≤ z ∧ z < (hK h a).2 ∧ WP d mX10_put 77 ls st (wJ h a z.toNat v) Q) := R_last dX10_put_76
theorem rX10_put_77 {d : Nat} {h : Hp} {Q : Option PV → Hp → Prop} {st : List PV}{t : List (Option PV)} {v : Nat} : WP d mX10_put 77 (some (.inr (.inr v)) :: t) st h Q = WP d mX10_put 78 (some (.inr (.inr v)) :: t) (.inr (.inr v) :: st) h Q := WP_step dX10_put_77 rfl rfl rfl
theorem rX10_put_78 {d : Nat} {h : Hp} {Q : Option PV → Hp → Prop} {st : List PV}{ls : List (Option PV)}{a : Nat} : WP d mX10_put 78 ls (.inr (.inr a) :: st) h Q = ((hK h a).1 = 10 ∧ WP d mX10_put 81 ls (.inr (.inr (hR h a 0)) :: st) h Q) := R_get2 dX10_put_78 rfl
theorem rX10_put_81 {d : Nat} {h : Hp} {Q : Option PV → Hp → Prop} {st : List PV}{x0 : Option PV} {t : List (Option PV)} {v : Int} : WP d mX10_put 81 (x0 :: some (.inl v) :: t) st h Q = WP d mX10_put 82 (x0 :: some (.inl v) :: t) (.inl v :: st) h Q := WP_step dX10_put_81 rfl rfl rfl
theorem rX10_put_82 {d : Nat} {h : Hp} {Q : Option PV → Hp → Prop} {st : List PV}{ls : List (Option PV)}{a : Nat} {z : Int} : WP d mX10_put 82 ls (.inl z :: .inr (.inr a) :: st) h Q = ((hK h a).1 = 22 ∧ 0 ≤ z ∧ z < (hK h a).2 ∧ WP d mX10_put 83 ls (.inr (.inl (hJ h a z.toNat)) :: st) h Q) := R_lald dX10_put_82
theorem rX10_put_83 {d : Nat} {h : Hp} {Q : Option PV → Hp → Prop} {ls : List (Option PV)}{z : Int} : WP d mX10_put 83 ls [.inr (.inl z)] h Q = Q (some (.inr (.inl z))) h := R_lret dX10_put_83 rfl
