theorem dX3_init_0 : decode prog_5_method_1_code 0 = .ok (.aload_n 0, 1) := by decide +kernel
theorem dX3_init_1 : decode prog_5_method_1_code 1 = .ok (.invokespecial 1, 3) := by decide +kernel
theorem dX3_init_4 : decode prog_5_method_1_code 4 = .ok (.return_, 1) := by decide +kernel
theorem rX3_init_0 {d : Nat} {h : Hp} {Q : Option PV → Hp → Prop} {st : List PV}{t : List (Option PV)} {v : Nat} : WP d mX3_init 0 (some (.inr (.inr v)) :: t) st h Q = WP d mX3_init 1 (some (.inr (.inr v)) :: t) (.inr (.inr v) :: st) h Q := WP_step dX3_init_0 rfl rfl rfl
theorem rX3_init_1 {d : Nat} {h : Hp} {Q : Option PV → Hp → Prop} {ls : List (Option PV)}{a : Nat} : WP d mX3_init 1 ls (.inr (.inr a) :: []) h Q = (200 ≤ a ∧ WP d mX3_init 4 ls [] h Q) := R_obj (n := 1) (M' := mX0_init) dX3_init_1 rfl rfl
theorem rX3_init_4 {d : Nat} {h : Hp} {Q : Option PV → Hp → Prop} {ls : List (Option PV)} : WP d mX3_init 4 ls [] h Q = Q none h := R_vret dX3_init_4 rfl
theorem dX3_add_0 : decode prog_5_method_2_code 0 = .ok (.iload_n 1, 1) := by decide +kernel
theorem dX3_add_1 : decode prog_5_method_2_code 1 = .ok (.bipush 50, 2) := by decide +kernel
theorem dX3_add_3 : decode prog_5_method_2_code 3 = .ok (.if_icmp .ge 18, 3) := by decide +kernel
theorem dX3_add_6 : decode prog_5_method_2_code 6 = .ok (.aload_n 0, 1) := by decide +kernel
theorem dX3_add_7 : decode prog_5_method_2_code 7 = .ok (.dup, 1) := by decide +kernel
theorem dX3_add_8 : decode prog_5_method_2_code 8 = .ok (.getfield 9, 3) := by decide +kernel
theorem dX3_add_11 : decode prog_5_method_2_code 11 = .ok (.lconst 1, 1) := by decide +kernel
theorem dX3_add_12 : decode prog_5_method_2_code 12 = .ok (.iload_n 1, 1) := by decide +kernel
theorem dX3_add_13 : decode prog_5_method_2_code 13 = .ok (.lshl, 1) := by decide +kernel
theorem dX3_add_14 : decode prog_5_method_2_code 14 = .ok (.lor, 1) := by decide +kernel
theorem dX3_add_15 : decode prog_5_method_2_code 15 = .ok (.putfield 9, 3) := by decide +kernel
theorem dX3_add_18 : decode prog_5_method_2_code 18 = .ok (.goto 18, 3) := by decide +kernel
theorem dX3_add_21 : decode prog_5_method_2_code 21 = .ok (.aload_n 0, 1) := by decide +kernel
theorem dX3_add_22 : decode prog_5_method_2_code 22 = .ok (.dup, 1) := by decide +kernel
theorem dX3_add_23 : decode prog_5_method_2_code 23 = .ok (.getfield 13, 3) := by decide +kernel
theorem dX3_add_26 : decode prog_5_method_2_code 26 = .ok (.lconst 1, 1) := by decide +kernel
theorem dX3_add_27 : decode prog_5_method_2_code 27 = .ok (.iload_n 1, 1) := by decide +kernel
theorem dX3_add_28 : decode prog_5_method_2_code 28 = .ok (.bipush 50, 2) := by decide +kernel
theorem dX3_add_30 : decode prog_5_method_2_code 30 = .ok (.isub, 1) := by decide +kernel
theorem dX3_add_31 : decode prog_5_method_2_code 31 = .ok (.lshl, 1) := by decide +kernel
theorem dX3_add_32 : decode prog_5_method_2_code 32 = .ok (.lor, 1) := by decide +kernel
theorem dX3_add_33 : decode prog_5_method_2_code 33 = .ok (.putfield 13, 3) := by decide +kernel
theorem dX3_add_36 : decode prog_5_method_2_code 36 = .ok (.return_, 1) := by decide +kernel
theorem rX3_add_0 {d : Nat} {h : Hp} {Q : Option PV → Hp → Prop} {st : List PV}{x0 : Option PV} {t : List (Option PV)} {v : Int} : WP d mX3_add 0 (x0 :: some (.inl v) :: t) st h Q = WP d mX3_add 1 (x0 :: some (.inl v) :: t) (.inl v :: st) h Q := WP_step dX3_add_0 rfl rfl rfl
theorem rX3_add_1 {d : Nat} {h : Hp} {Q : Option PV → Hp → Prop} {st : List PV}{ls : List (Option PV)} : WP d mX3_add 1 ls st h Q = WP d mX3_add 3 ls (.inl (50) :: st) h Q := WP_step dX3_add_1 rfl rfl rfl
theorem rX3_add_3 {d : Nat} {h : Hp} {Q : Option PV → Hp → Prop} {st : List PV}{ls : List (Option PV)}{a b : Int} : WP d mX3_add 3 ls (.inl b :: .inl a :: st) h Q = (if a < b then WP d mX3_add 6 ls st h Q else WP d mX3_add 21 ls st h Q) := R_icmp_ge dX3_add_3 (by decide)
theorem rX3_add_6 {d : Nat} {h : Hp} {Q : Option PV → Hp → Prop} {st : List PV}{t : List (Option PV)} {v : Nat} : WP d mX3_add 6 (some (.inr (.inr v)) :: t) st h Q = WP d mX3_add 7 (some (.inr (.inr v)) :: t) (.inr (.inr v) :: st) h Q := WP_step dX3_add_6 rfl rfl rfl
theorem rX3_add_7 {d : Nat} {h : Hp} {Q : Option PV → Hp → Prop} {st : List PV}{ls : List (Option PV)}{a : Nat} : WP d mX3_add 7 ls (.inr (.inr a) :: st) h Q = WP d mX3_add 8 ls (.inr (.inr a) :: .inr (.inr a) :: st) h Q := WP_step dX3_add_7 rfl rfl rfl
theorem rX3_add_8 {d : Nat} {h : Hp} {Q : Option PV → Hp → Prop} {st : List PV}{ls : List (Option PV)}{a : Nat} : WP d mX3_add 8 ls (.inr (.inr a) :: st) h Q = ((hK h a).1 = 3 ∧ WP d mX3_add 11 ls (.inr (.inl (hJ h a 0)) :: st) h Q) := R_get1 dX3_add_8 rfl
theorem rX3_add_11 {d : Nat} {h : Hp} {Q : Option PV → Hp → Prop} {st : List PV}{ls : List (Option PV)} : WP d mX3_add 11 ls st h Q = WP d mX3_add 12 ls (.inr (.inl 1) :: st) h Q := WP_step dX3_add_11 rfl rfl rfl
theorem rX3_add_12 {d : Nat} {h : Hp} {Q : Option PV → Hp → Prop} {st : List PV}{x0 : Option PV} {t : List (Option PV)} {v : Int} : WP d mX3_add 12 (x0 :: some (.inl v) :: t) st h Q = WP d mX3_add 13 (x0 :: some (.inl v) :: t) (.inl v :: st) h Q := WP_step dX3_add_12 rfl rfl rfl
theorem rX3_add_13 {d : Nat} {h : Hp} {Q : Option PV → Hp → Prop} {st : List PV}{ls : List (Option PV)}{a b : Int} : WP d mX3_add 13 ls (.inl b :: .inr (.inl a) :: st) h Q = WP d mX3_add 14 ls (.inr (.inl (lshl a b)) :: st) h Q := WP_step dX3_add_13 rfl rfl rfl
theorem rX3_add_14 {d : Nat} {h : Hp} {Q : Option PV → Hp → Prop} {st : List PV}{ls : List (Option PV)}{a b : Int} : WP d mX3_add 14 ls (.inr (.inl b) :: .inr (.inl a) :: st) h Q = WP d mX3_add 15 ls (.inr (.inl (lor a b)) :: st) h Q := WP_step dX3_add_14 rfl rfl rfl
theorem rX3_add_15 {d : Nat} {h : Hp} {Q : Option PV → Hp → Prop} {st : List PV}{ls : List (Option PV)}{a : Nat} {v : Int} : WP d mX3_add 15 ls (.inr (.inl v) :: .inr (.inr a) :: st) h Q = ((hK h a).1 = 3 ∧ 200 ≤ a ∧ WP d mX3_add 18 ls st (wJ h a 0 v) Q) := R_put1 dX3_add_15 rfl
theorem rX3_add_18 {d : Nat} {h : Hp} {Q : Option PV → Hp → Prop} {st : List PV}{ls : List (Option PV)} : WP d mX3_add 18 ls st h Q = WP d mX3_add 36 ls st h Q := R_goto dX3_add_18 (by decide)
theorem rX3_add_21 {d : Nat} {h : Hp} {Q : Option PV → Hp → Prop} {st : List PV}{t : List (Option PV)} {v : Nat} : WP d mX3_add 21 (some (.inr (.inr v)) :: t) st h Q = WP d mX3_add 22 (some (.inr (.inr v)) :: t) (.inr (.inr v) :: st) h Q := WP_step dX3_add_21 rfl rfl rfl
theorem rX3_add_22 {d : Nat} {h : Hp} {Q : Option PV → Hp → Prop} {st : List PV}{ls : List (Option PV)}{a : Nat} : WP d mX3_add 22 ls (.inr (.inr a) :: st) h Q = WP d mX3_add 23 ls (.inr (.inr a) :: .inr (.inr a) :: st) h Q := WP_step dX3_add_22 rfl rfl rfl
theorem rX3_add_23 {d : Nat} {h : Hp} {Q : Option PV → Hp → Prop} {st : List PV}{ls : List (Option PV)}{a : Nat} : WP d mX3_add 23 ls (.inr (.inr a) :: st) h Q = ((hK h a).1 = 3 ∧ WP d mX3_add 26 ls (.inr (.inl (hJ h a 1)) :: st) h Q) := R_get1 dX3_add_23 rfl
theorem rX3_add_26 {d : Nat} {h : Hp} {Q : Option PV → Hp → Prop} {st : List PV}{ls : List (Option PV)} : WP d mX3_add 26 ls st h Q = WP d mX3_add 27 ls (.inr (.inl 1) :: st) h Q := WP_step dX3_add_26 rfl rfl rfl
theorem rX3_add_27 {d : Nat} {h : Hp} {Q : Option PV → Hp → Prop} {st : List PV}{x0 : Option PV} {t : List (Option PV)} {v : Int} : WP d mX3_add 27 (x0 :: some (.inl v) :: t) st h Q = WP d mX3_add 28 (x0 :: some (.inl v) :: t) (.inl v :: st) h Q := WP_step dX3_add_27 rfl rfl rfl
theorem rX3_add_28 {d : Nat} {h : Hp} {Q : Option PV → Hp → Prop} {st : List PV}{ls : List (Option PV)} : WP d mX3_add 28 ls st h Q = WP d mX3_add 30 ls (.inl (50) :: st) h Q := WP_step dX3_add_28 rfl rfl rfl
theorem rX3_add_30 {d : Nat} {h : Hp} {Q : Option PV → Hp → Prop} {st : List PV}{ls : List (Option PV)}{a b : Int} : WP d mX3_add 30 ls (.inl b :: .inl a :: st) h Q = WP d mX3_add 31 ls (.inl (w32 (a - b)) :: st) h Q := WP_step dX3_add_30 rfl rfl rfl
theorem rX3_add_31 {d : Nat} {h : Hp} {Q : Option PV → Hp → Prop} {st : List PV}{ls : List (Option PV)}{a b : Int} : WP d mX3_add 31 ls (.inl b :: .inr (.inl a) :: st) h Q = WP d mX3_add 32 ls (.inr (.inl (lshl a b)) :: st) h Q := WP_step dX3_add_31 rfl rfl rfl
theorem rX3_add_32 {d : Nat} {h : Hp} {Q : Option PV → Hp → Prop} {st : List PV}{ls : List (Option PV)}{a b : Int} : WP d mX3_add 32 ls (.inr (.inl b) :: .inr (.inl a) :: st) h Q = WP d mX3_add 33 ls (.inr (.inl (lor a b)) :: st) h Q := WP_step dX3_add_32 rfl rfl rfl
theorem rX3_add_33 {d : Nat} {h : Hp} {Q : Option PV → Hp → Prop} {st : List PV}{ls : List (Option PV)}{a : Nat} {v : Int} : WP d mX3_add 33 ls (.inr (.inl v) :: .inr (.inr a) :: st) h Q = ((hK h a).1 = 3 ∧ 200 ≤ a ∧ WP d mX3_add 36 ls st (wJ h a 1 v) Q) := R_put1 dX3_add_33 rfl
theorem rX3_add_36 {d : Nat} {h : Hp} {Q : Option PV → Hp → Prop} {ls : List (Option PV)} : WP d mX3_add 36 ls [] h Q = Q none h := R_vret dX3_add_36 rfl
theorem dX3_size_0 : decode prog_5_method_3_code 0 = .ok (.aload_n 0, 1) := by decide +kernel
theorem dX3_size_1 : decode prog_5_method_3_code 1 = .ok (.getfield 9, 3) := by decide +kernel
theorem dX3_size_4 : decode prog_5_method_3_code 4 = .ok (.invokestatic 16, 3) := by decide +kernel
theorem dX3_size_7 : decode prog_5_method_3_code 7 = .ok (.aload_n 0, 1) := by decide +kernel
theorem dX3_size_8 : decode prog_5_method_3_code 8 = .ok (.getfield 13, 3) := by decide +kernel
theorem dX3_size_11 : decode prog_5_method_3_code 11 = .ok (.invokestatic 16, 3) := by decide +kernel
theorem dX3_size_14 : decode prog_5_method_3_code 14 = .ok (.iadd, 1) := by decide +kernel
theorem dX3_size_15 : decode prog_5_method_3_code 15 = .ok (.ireturn, 1) := by decide +kernel
theorem rX3_size_0 {d : Nat} {h : Hp} {Q : Option PV → Hp → Prop} {st : List PV}{t : List (Option PV)} {v : Nat} : WP d mX3_size 0 (some (.inr (.inr v)) :: t) st h Q = WP d mX3_size 1 (some (.inr (.inr v)) :: t) (.inr (.inr v) :: st) h Q := WP_step dX3_size_0 rfl rfl rfl
theorem rX3_size_1 {d : Nat} {h : Hp} {Q : Option PV → Hp → Prop} {st : List PV}{ls : List (Option PV)}{a : Nat} : WP d mX3_size 1 ls (.inr (.inr a) :: st) h Q = ((hK h a).1 = 3 ∧ WP d mX3_size 4 ls (.inr (.inl (hJ h a 0)) :: st) h Q) := R_get1 dX3_size_1 rfl
theorem rX3_size_4 {d : Nat} {h : Hp} {Q : Option PV → Hp → Prop} {ls : List (Option PV)}{v0 : Int} : WP (d + 1) mX3_size 4 ls (.inr (.inl v0) :: []) h Q = WP d mJ13_bitCount_95d88 0 [some (.inr (.inl v0)), none] [] h (fun r h' => WP (d + 1) mX3_size 7 ls (psh r []) h' Q) := R_callS (st := .inr (.inl v0) :: []) (M := mX3_size) (pc := 4) (kd := 4) (n := 1) (M' := mJ13_bitCount_95d88) (as := [.inr (.inl v0)]) (rest := []) (en := [some (.inr (.inl v0)), none]) dX3_size_4 rfl (Or.inl rfl) (Nat.le_of_ble_eq_true rfl) rfl (Nat.le_of_ble_eq_true rfl) rfl rfl rfl
theorem rX3_size_7 {d : Nat} {h : Hp} {Q : Option PV → Hp → Prop} {st : List PV}{t : List (Option PV)} {v : Nat} : WP d mX3_size 7 (some (.inr (.inr v)) :: t) st h Q = WP d mX3_size 8 (some (.inr (.inr v)) :: t) (.inr (.inr v) :: st) h Q := WP_step dX3_size_7 rfl rfl rfl
theorem rX3_size_8 {d : Nat} {h : Hp} {Q : Option PV → Hp → Prop} {st : List PV}{ls : List (Option PV)}{a : Nat} : WP d mX3_size 8 ls (.inr (.inr a) :: st) h Q = ((hK h a).1 = 3 ∧ WP d mX3_size 11 ls (.inr (.inl (hJ h a 1)) :: st) h Q) := R_get1 dX3_size_8 rfl
theorem rX3_size_11 {d : Nat} {h : Hp} {Q : Option PV → Hp → Prop} {ls : List (Option PV)}{r0 : PV}{v0 : Int} : WP (d + 1) mX3_size 11 ls (.inr (.inl v0) :: [r0]) h Q = WP d mJ13_bitCount_95d88 0 [some (.inr (.inl v0)), none] [] h (fun r h' => WP (d + 1) mX3_size 14 ls (psh r [r0]) h' Q) := R_callS (st := .inr (.inl v0) :: [r0]) (M := mX3_size) (pc := 11) (kd := 4) (n := 1) (M' := mJ13_bitCount_95d88) (as := [.inr (.inl v0)]) (rest := [r0]) (en := [some (.inr (.inl v0)), none]) dX3_size_11 rfl (Or.inl rfl) (Nat.le_of_ble_eq_true rfl) rfl (Nat.le_of_ble_eq_true rfl) rfl rfl rfl
theorem rX3_size_14 {d : Nat} {h : Hp} {Q : Option PV → Hp → Prop} {st : List PV}{ls : List (Option PV)}{a b : Int} : WP d mX3_size 14 ls (.inl b :: .inl a :: st) h Q = WP d mX3_size 15 ls (.inl (w32 (a + b)) :: st) h Q := WP_step dX3_size_14 rfl rfl rfl
theorem rX3_size_15 {d : Nat} {h : Hp} {Q : Option PV → Hp → Prop} {ls : List (Option PV)}{z : Int} : WP d mX3_size 15 ls [.inl z] h Q = Q (some (.inl z)) h := R_iret dX3_size_15 rfl
