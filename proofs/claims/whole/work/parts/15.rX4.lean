theorem dX4_init_0 : decode prog_6_method_1_code 0 = .ok (.aload_n 0, 1) := by decide +kernel
theorem dX4_init_1 : decode prog_6_method_1_code 1 = .ok (.invokespecial 3, 3) := by decide +kernel
theorem dX4_init_4 : decode prog_6_method_1_code 4 = .ok (.aload_n 0, 1) := by decide +kernel
theorem dX4_init_5 : decode prog_6_method_1_code 5 = .ok (.bipush 11, 2) := by decide +kernel
theorem dX4_init_7 : decode prog_6_method_1_code 7 = .ok (.anewarray 11, 3) := by decide +kernel
theorem dX4_init_10 : decode prog_6_method_1_code 10 = .ok (.putfield 13, 3) := by decide +kernel
theorem dX4_init_13 : decode prog_6_method_1_code 13 = .ok (.iconst 0, 1) := by decide +kernel
theorem dX4_init_14 : decode prog_6_method_1_code 14 = .ok (.istore_n 1, 1) := by decide +kernel
theorem dX4_init_15 : decode prog_6_method_1_code 15 = .ok (.iload_n 1, 1) := by decide +kernel
theorem dX4_init_16 : decode prog_6_method_1_code 16 = .ok (.bipush 11, 2) := by decide +kernel
theorem dX4_init_18 : decode prog_6_method_1_code 18 = .ok (.if_icmp .ge 22, 3) := by decide +kernel
theorem dX4_init_21 : decode prog_6_method_1_code 21 = .ok (.aload_n 0, 1) := by decide +kernel
theorem dX4_init_22 : decode prog_6_method_1_code 22 = .ok (.getfield 13, 3) := by decide +kernel
theorem dX4_init_25 : decode prog_6_method_1_code 25 = .ok (.iload_n 1, 1) := by decide +kernel
theorem dX4_init_26 : decode prog_6_method_1_code 26 = .ok (.new 11, 3) := by decide +kernel
theorem dX4_init_29 : decode prog_6_method_1_code 29 = .ok (.dup, 1) := by decide +kernel
theorem dX4_init_30 : decode prog_6_method_1_code 30 = .ok (.invokespecial 17, 3) := by decide +kernel
theorem dX4_init_33 : decode prog_6_method_1_code 33 = .ok (.aastore, 1) := by decide +kernel
theorem dX4_init_34 : decode prog_6_method_1_code 34 = .ok (.iinc 1 1, 3) := by decide +kernel
theorem dX4_init_37 : decode prog_6_method_1_code 37 = .ok (.goto (-22), 3) := by decide +kernel
theorem dX4_init_40 : decode prog_6_method_1_code 40 = .ok (.return_, 1) := by decide +kernel
theorem rX4_init_0 {d : Nat} {h : Hp} {Q : Option PV → Hp → Prop} {st : List PV}{t : List (Option PV)} {v : Nat} : WP d mX4_init 0 (some (.inr (.inr v)) :: t) st h Q = WP d mX4_init 1 (some (.inr (.inr v)) :: t) (.inr (.inr v) :: st) h Q := WP_step dX4_init_0 rfl rfl rfl
theorem rX4_init_1 {d : Nat} {h : Hp} {Q : Option PV → Hp → Prop} {ls : List (Option PV)}{a : Nat} : WP d mX4_init 1 ls (.inr (.inr a) :: []) h Q = (200 ≤ a ∧ WP d mX4_init 4 ls [] h Q) := R_obj (n := 1) (M' := mX0_init) dX4_init_1 rfl rfl
theorem rX4_init_4 {d : Nat} {h : Hp} {Q : Option PV → Hp → Prop} {st : List PV}{t : List (Option PV)} {v : Nat} : WP d mX4_init 4 (some (.inr (.inr v)) :: t) st h Q = WP d mX4_init 5 (some (.inr (.inr v)) :: t) (.inr (.inr v) :: st) h Q := WP_step dX4_init_4 rfl rfl rfl
theorem rX4_init_5 {d : Nat} {h : Hp} {Q : Option PV → Hp → Prop} {st : List PV}{ls : List (Option PV)} : WP d mX4_init 5 ls st h Q = WP d mX4_init 7 ls (.inl (11) :: st) h Q := WP_step dX4_init_5 rfl rfl rfl
theorem rX4_init_7 {d : Nat} {h : Hp} {Q : Option PV → Hp → Prop} {st : List PV}{ls : List (Option PV)}{z : Int} : WP d mX4_init 7 ls (.inl z :: st) h Q = ((0 ≤ z ∧ z ≤ 100000) ∧ WP d mX4_init 10 ls (.inr (.inr (200 + hN h)) :: st) (nw h 25 z.toNat z.toNat) Q) := R_anwa dX4_init_7 rfl
theorem rX4_init_10 {d : Nat} {h : Hp} {Q : Option PV → Hp → Prop} {st : List PV}{ls : List (Option PV)}{a : Nat} {v : Nat} : WP d mX4_init 10 ls (.inr (.inr v) :: .inr (.inr a) :: st) h Q = ((hK h a).1 = 4 ∧ 200 ≤ a ∧ WP d mX4_init 13 ls st (wR h a 0 v) Q) := R_put2 dX4_init_10 rfl
theorem rX4_init_13 {d : Nat} {h : Hp} {Q : Option PV → Hp → Prop} {st : List PV}{ls : List (Option PV)} : WP d mX4_init 13 ls st h Q = WP d mX4_init 14 ls (.inl (0) :: st) h Q := WP_step dX4_init_13 rfl rfl rfl
theorem rX4_init_14 {d : Nat} {h : Hp} {Q : Option PV → Hp → Prop} {st : List PV}{x0 x1 : Option PV} {v : Int} : WP d mX4_init 14 [x0, x1] (.inl v :: st) h Q = WP d mX4_init 15 [x0, some (.inl v)] st h Q := WP_step dX4_init_14 rfl rfl rfl
theorem rX4_init_15 {d : Nat} {h : Hp} {Q : Option PV → Hp → Prop} {st : List PV}{x0 : Option PV} {t : List (Option PV)} {v : Int} : WP d mX4_init 15 (x0 :: some (.inl v) :: t) st h Q = WP d mX4_init 16 (x0 :: some (.inl v) :: t) (.inl v :: st) h Q := WP_step dX4_init_15 rfl rfl rfl
theorem rX4_init_16 {d : Nat} {h : Hp} {Q : Option PV → Hp → Prop} {st : List PV}{ls : List (Option PV)} : WP d mX4_init 16 ls st h Q = WP d mX4_init 18 ls (.inl (11) :: st) h Q := WP_step dX4_init_16 rfl rfl rfl
theorem rX4_init_18 {d : Nat} {h : Hp} {Q : Option PV → Hp → Prop} {st : List PV}{ls : List (Option PV)}{a b : Int} : WP d mX4_init 18 ls (.inl b :: .inl a :: st) h Q = (if a < b then WP d mX4_init 21 ls st h Q else WP d mX4_init 40 ls st h Q) := R_icmp_ge dX4_init_18 (by decide)
theorem rX4_init_21 {d : Nat} {h : Hp} {Q : Option PV → Hp → Prop} {st : List PV}{t : List (Option PV)} {v : Nat} : WP d mX4_init 21 (some (.inr (.inr v)) :: t) st h Q = WP d mX4_init 22 (some (.inr (.inr v)) :: t) (.inr (.inr v) :: st) h Q := WP_step dX4_init_21 rfl rfl rfl
theorem rX4_init_22 {d : Nat} {h : Hp} {Q : Option PV → Hp → Prop} {st : List PV}{ls : List (Option PV)}{a : Nat} : WP d mX4_init 22 ls (.inr (.inr a) :: st) h Q = ((hK h a).1 = 4 ∧ WP d mX4_init 25 ls (.inr (.inr (hR h a 0)) :: st) h Q) := R_get2 dX4_init_22 rfl
theorem rX4_init_25 {d : Nat} {h : Hp} {Q : Option PV → Hp → Prop} {st : List PV}{x0 : Option PV} {t : List (Option PV)} {v : Int} : WP d mX4_init 25 (x0 :: some (.inl v) :: t) st h Q = WP d mX4_init 26 (x0 :: some (.inl v) :: t) (.inl v :: st) h Q := WP_step dX4_init_25 rfl rfl rfl
theorem rX4_init_26 {d : Nat} {h : Hp} {Q : Option PV → Hp → Prop} {st : List PV}{ls : List (Option PV)} : WP d mX4_init 26 ls st h Q = WP d mX4_init 29 ls (.inr (.inr (200 + hN h)) :: st) (nw h 8 0 4) Q := R_new dX4_init_26 rfl
theorem rX4_init_29 {d : Nat} {h : Hp} {Q : Option PV → Hp → Prop} {st : List PV}{ls : List (Option PV)}{a : Nat} : WP d mX4_init 29 ls (.inr (.inr a) :: st) h Q = WP d mX4_init 30 ls (.inr (.inr a) :: .inr (.inr a) :: st) h Q := WP_step dX4_init_29 rfl rfl rfl
theorem rX4_init_30 {d : Nat} {h : Hp} {Q : Option PV → Hp → Prop} {ls : List (Option PV)}{r0 r1 r2 : PV}{v0 : Nat} : WP (d + 1) mX4_init 30 ls (.inr (.inr v0) :: [r0, r1, r2]) h Q = (200 ≤ v0 ∧ WP d mX8_init 0 [some (.inr (.inr v0))] [] h (fun r h' => WP (d + 1) mX4_init 33 ls (psh r [r0, r1, r2]) h' Q)) := R_callI (st := .inr (.inr v0) :: [r0, r1, r2]) (M := mX4_init) (pc := 30) (kd := 3) (n := 1) (M' := mX8_init) (as := [.inr (.inr v0)]) (rest := [r0, r1, r2]) (en := [some (.inr (.inr v0))]) dX4_init_30 rfl (Or.inr rfl) (Nat.le_of_ble_eq_true rfl) rfl rfl (Nat.le_of_ble_eq_true rfl) rfl rfl rfl
theorem rX4_init_33 {d : Nat} {h : Hp} {Q : Option PV → Hp → Prop} {st : List PV}{ls : List (Option PV)}{a v : Nat} {z : Int} : WP d mX4_init 33 ls (.inr (.inr v) :: .inl z :: .inr (.inr a) :: st) h Q = (200 ≤ a ∧ 200 ≤ v ∧ ((hK h a).1 = 24 ∨ (hK h a).1 = 25 ∨ (hK h a).1 = 26) ∧ (hK h v).1 = elC (hK h a).1 ∧ 0 ≤ z ∧ z < (hK h a).2 ∧ WP d mX4_init 34 ls st (wR h a z.toNat v) Q) := R_aast dX4_init_33
theorem rX4_init_34 {d : Nat} {h : Hp} {Q : Option PV → Hp → Prop} {st : List PV}{x0 : Option PV} {t : List (Option PV)} {v : Int} : WP d mX4_init 34 (x0 :: some (.inl v) :: t) st h Q = WP d mX4_init 37 (x0 :: some (.inl (w32 (v + 1))) :: t) st h Q := WP_step dX4_init_34 rfl rfl rfl
theorem rX4_init_37 {d : Nat} {h : Hp} {Q : Option PV → Hp → Prop} {st : List PV}{ls : List (Option PV)} : WP d mX4_init 37 ls st h Q = WP d mX4_init 15 ls st h Q := R_goto dX4_init_37 (by decide)
theorem rX4_init_40 {d : Nat} {h : Hp} {Q : Option PV → Hp → Prop} {ls : List (Option PV)} : WP d mX4_init 40 ls [] h Q = Q none h := R_vret dX4_init_40 rfl
theorem dX4_mark_0 : decode prog_6_method_2_code 0 = .ok (.aload_n 0, 1) := by decide +kernel
theorem dX4_mark_1 : decode prog_6_method_2_code 1 = .ok (.getfield 13, 3) := by decide +kernel
theorem dX4_mark_4 : decode prog_6_method_2_code 4 = .ok (.aload_n 0, 1) := by decide +kernel
theorem dX4_mark_5 : decode prog_6_method_2_code 5 = .ok (.getfield 18, 3) := by decide +kernel
theorem dX4_mark_8 : decode prog_6_method_2_code 8 = .ok (.aaload, 1) := by decide +kernel
theorem dX4_mark_9 : decode prog_6_method_2_code 9 = .ok (.aload_n 1, 1) := by decide +kernel
theorem dX4_mark_10 : decode prog_6_method_2_code 10 = .ok (.invokevirtual 22, 3) := by decide +kernel
theorem dX4_mark_13 : decode prog_6_method_2_code 13 = .ok (.return_, 1) := by decide +kernel
theorem rX4_mark_0 {d : Nat} {h : Hp} {Q : Option PV → Hp → Prop} {st : List PV}{t : List (Option PV)} {v : Nat} : WP d mX4_mark 0 (some (.inr (.inr v)) :: t) st h Q = WP d mX4_mark 1 (some (.inr (.inr v)) :: t) (.inr (.inr v) :: st) h Q := WP_step dX4_mark_0 rfl rfl rfl
theorem rX4_mark_1 {d : Nat} {h : Hp} {Q : Option PV → Hp → Prop} {st : List PV}{ls : List (Option PV)}{a : Nat} : WP d mX4_mark 1 ls (.inr (.inr a) :: st) h Q = ((hK h a).1 = 4 ∧ WP d mX4_mark 4 ls (.inr (.inr (hR h a 0)) :: st) h Q) := R_get2 dX4_mark_1 rfl
theorem rX4_mark_4 {d : Nat} {h : Hp} {Q : Option PV → Hp → Prop} {st : List PV}{t : List (Option PV)} {v : Nat} : WP d mX4_mark 4 (some (.inr (.inr v)) :: t) st h Q = WP d mX4_mark 5 (some (.inr (.inr v)) :: t) (.inr (.inr v) :: st) h Q := WP_step dX4_mark_4 rfl rfl rfl
theorem rX4_mark_5 {d : Nat} {h : Hp} {Q : Option PV → Hp → Prop} {st : List PV}{ls : List (Option PV)}{a : Nat} : WP d mX4_mark 5 ls (.inr (.inr a) :: st) h Q = ((hK h a).1 = 4 ∧ WP d mX4_mark 8 ls (.inl (hI h a 1) :: st) h Q) := R_get0 dX4_mark_5 rfl
theorem rX4_mark_8 {d : Nat} {h : Hp} {Q : Option PV → Hp → Prop} {st : List PV}{ls : List (Option PV)}{a : Nat} {z : Int} : WP d mX4_mark 8 ls (.inl z :: .inr (.inr a) :: st) h Q = (((hK h a).1 = 24 ∨ (hK h a).1 = 25 ∨ (hK h a).1 = 26) ∧ 0 ≤ z ∧ z < (hK h a).2 ∧ WP d mX4_mark 9 ls (.inr (.inr (hR h a z.toNat)) :: st) h Q) := R_aald dX4_mark_8
theorem rX4_mark_9 {d : Nat} {h : Hp} {Q : Option PV → Hp → Prop} {st : List PV}{x0 : Option PV} {t : List (Option PV)} {v : Nat} : WP d mX4_mark 9 (x0 :: some (.inr (.inr v)) :: t) st h Q = WP d mX4_mark 10 (x0 :: some (.inr (.inr v)) :: t) (.inr (.inr v) :: st) h Q := WP_step dX4_mark_9 rfl rfl rfl
theorem rX4_mark_10 {d : Nat} {h : Hp} {Q : Option PV → Hp → Prop} {ls : List (Option PV)}{v0 : Nat} {v1 : Nat} : WP (d + 1) mX4_mark 10 ls (.inr (.inr v1) :: .inr (.inr v0) :: []) h Q = ((hK h v0).1 = 8 ∧ WP d mX8_become 0 [some (.inr (.inr v0)), some (.inr (.inr v1))] [] h (fun r h' => WP (d + 1) mX4_mark 13 ls (psh r []) h' Q)) := R_callV (st := .inr (.inr v1) :: .inr (.inr v0) :: []) (M := mX4_mark) (pc := 10) (kd := 0) (n := 2) (M' := mX8_become) (as := [.inr (.inr v1), .inr (.inr v0)]) (rest := []) (en := [some (.inr (.inr v0)), some (.inr (.inr v1))]) dX4_mark_10 rfl (Nat.le_of_ble_eq_true rfl) (Nat.le_of_ble_eq_true rfl) rfl rfl (Nat.le_of_ble_eq_true rfl) rfl rfl rfl
theorem rX4_mark_13 {d : Nat} {h : Hp} {Q : Option PV → Hp → Prop} {ls : List (Option PV)} : WP d mX4_mark 13 ls [] h Q = Q none h := R_vret dX4_mark_13 rfl
theorem dX4_keep_0 : decode prog_6_method_3_code 0 = .ok (.aload_n 0, 1) := by decide +kernel
theorem dX4_keep_1 : decode prog_6_method_3_code 1 = .ok (.aload_n 0, 1) := by decide +kernel
theorem dX4_keep_2 : decode prog_6_method_3_code 2 = .ok (.getfield 18, 3) := by decide +kernel
theorem dX4_keep_5 : decode prog_6_method_3_code 5 = .ok (.iconst 1, 1) := by decide +kernel
theorem dX4_keep_6 : decode prog_6_method_3_code 6 = .ok (.iadd, 1) := by decide +kernel
theorem dX4_keep_7 : decode prog_6_method_3_code 7 = .ok (.bipush 11, 2) := by decide +kernel
theorem dX4_keep_9 : decode prog_6_method_3_code 9 = .ok (.irem, 1) := by decide +kernel
theorem dX4_keep_10 : decode prog_6_method_3_code 10 = .ok (.putfield 18, 3) := by decide +kernel
theorem dX4_keep_13 : decode prog_6_method_3_code 13 = .ok (.aload_n 0, 1) := by decide +kernel
theorem dX4_keep_14 : decode prog_6_method_3_code 14 = .ok (.aload_n 0, 1) := by decide +kernel
theorem dX4_keep_15 : decode prog_6_method_3_code 15 = .ok (.getfield 26, 3) := by decide +kernel
theorem dX4_keep_18 : decode prog_6_method_3_code 18 = .ok (.iconst 1, 1) := by decide +kernel
theorem dX4_keep_19 : decode prog_6_method_3_code 19 = .ok (.iadd, 1) := by decide +kernel
theorem dX4_keep_20 : decode prog_6_method_3_code 20 = .ok (.bipush 10, 2) := by decide +kernel
theorem dX4_keep_22 : decode prog_6_method_3_code 22 = .ok (.invokestatic 29, 3) := by decide +kernel
theorem dX4_keep_25 : decode prog_6_method_3_code 25 = .ok (.putfield 26, 3) := by decide +kernel
theorem dX4_keep_28 : decode prog_6_method_3_code 28 = .ok (.return_, 1) := by decide +kernel
theorem rX4_keep_0 {d : Nat} {h : Hp} {Q : Option PV → Hp → Prop} {st : List PV}{t : List (Option PV)} {v : Nat} : WP d mX4_keep 0 (some (.inr (.inr v)) :: t) st h Q = WP d mX4_keep 1 (some (.inr (.inr v)) :: t) (.inr (.inr v) :: st) h Q := WP_step dX4_keep_0 rfl rfl rfl
theorem rX4_keep_1 {d : Nat} {h : Hp} {Q : Option PV → Hp → Prop} {st : List PV}{t : List (Option PV)} {v : Nat} : WP d mX4_keep 1 (some (.inr (.inr v)) :: t) st h Q = WP d mX4_keep 2 (some (.inr (.inr v)) :: t) (.inr (.inr v) :: st) h Q := WP_step dX4_keep_1 rfl rfl rfl
theorem rX4_keep_2 {d : Nat} {h : Hp} {Q : Option PV → Hp → Prop} {st : List PV}{ls : List (Option PV)}{a : Nat} : WP d mX4_keep 2 ls (.inr (.inr a) :: st) h Q = ((hK h a).1 = 4 ∧ WP d mX4_keep 5 ls (.inl (hI h a 1) :: st) h Q) := R_get0 dX4_keep_2 rfl
theorem rX4_keep_5 {d : Nat} {h : Hp} {Q : Option PV → Hp → Prop} {st : List PV}{ls : List (Option PV)} : WP d mX4_keep 5 ls st h Q = WP d mX4_keep 6 ls (.inl (1) :: st) h Q := WP_step dX4_keep_5 rfl rfl rfl
theorem rX4_keep_6 {d : Nat} {h : Hp} {Q : Option PV → Hp → Prop} {st : List PV}{ls : List (Option PV)}{a b : Int} : WP d mX4_keep 6 ls (.inl b :: .inl a :: st) h Q = WP d mX4_keep 7 ls (.inl (w32 (a + b)) :: st) h Q := WP_step dX4_keep_6 rfl rfl rfl
theorem rX4_keep_7 {d : Nat} {h : Hp} {Q : Option PV → Hp → Prop} {st : List PV}{ls : List (Option PV)} : WP d mX4_keep 7 ls st h Q = WP d mX4_keep 9 ls (.inl (11) :: st) h Q := WP_step dX4_keep_7 rfl rfl rfl
theorem rX4_keep_9 {d : Nat} {h : Hp} {Q : Option PV → Hp → Prop} {st : List PV}{ls : List (Option PV)}{a b : Int} : WP d mX4_keep 9 ls (.inl b :: .inl a :: st) h Q = (b ≠ 0 ∧ WP d mX4_keep 10 ls (.inl (a.tmod b) :: st) h Q) := R_rem dX4_keep_9
theorem rX4_keep_10 {d : Nat} {h : Hp} {Q : Option PV → Hp → Prop} {st : List PV}{ls : List (Option PV)}{a : Nat} {v : Int} : WP d mX4_keep 10 ls (.inl v :: .inr (.inr a) :: st) h Q = ((hK h a).1 = 4 ∧ 200 ≤ a ∧ WP d mX4_keep 13 ls st (wI h a 1 v) Q) := R_put0 dX4_keep_10 rfl
theorem rX4_keep_13 {d : Nat} {h : Hp} {Q : Option PV → Hp → Prop} {st : List PV}{t : List (Option PV)} {v : Nat} : WP d mX4_keep 13 (some (.inr (.inr v)) :: t) st h Q = WP d mX4_keep 14 (some (.inr (.inr v)) :: t) (.inr (.inr v) :: st) h Q := WP_step dX4_keep_13 rfl rfl rfl
theorem rX4_keep_14 {d : Nat} {h : Hp} {Q : Option PV → Hp → Prop} {st : List PV}{t : List (Option PV)} {v : Nat} : WP d mX4_keep 14 (some (.inr (.inr v)) :: t) st h Q = WP d mX4_keep 15 (some (.inr (.inr v)) :: t) (.inr (.inr v) :: st) h Q := WP_step dX4_keep_14 rfl rfl rfl
theorem rX4_keep_15 {d : Nat} {h : Hp} {Q : Option PV → Hp → Prop} {st : List PV}{ls : List (Option PV)}{a : Nat} : WP d mX4_keep 15 ls (.inr (.inr a) :: st) h Q = ((hK h a).1 = 4 ∧ WP d mX4_keep 18 ls (.inl (hI h a 2) :: st) h Q) := R_get0 dX4_keep_15 rfl
theorem rX4_keep_18 {d : Nat} {h : Hp} {Q : Option PV → Hp → Prop} {st : List PV}{ls : List (Option PV)} : WP d mX4_keep 18 ls st h Q = WP d mX4_keep 19 ls (.inl (1) :: st) h Q := WP_step dX4_keep_18 rfl rfl rfl
theorem rX4_keep_19 {d : Nat} {h : Hp} {Q : Option PV → Hp → Prop} {st : List PV}{ls : List (Option PV)}{a b : Int} : WP d mX4_keep 19 ls (.inl b :: .inl a :: st) h Q = WP d mX4_keep 20 ls (.inl (w32 (a + b)) :: st) h Q := WP_step dX4_keep_19 rfl rfl rfl
theorem rX4_keep_20 {d : Nat} {h : Hp} {Q : Option PV → Hp → Prop} {st : List PV}{ls : List (Option PV)} : WP d mX4_keep 20 ls st h Q = WP d mX4_keep 22 ls (.inl (10) :: st) h Q := WP_step dX4_keep_20 rfl rfl rfl
theorem rX4_keep_22 {d : Nat} {h : Hp} {Q : Option PV → Hp → Prop} {ls : List (Option PV)}{r0 : PV}{v0 : Int} {v1 : Int} : WP (d + 1) mX4_keep 22 ls (.inl v1 :: .inl v0 :: [r0]) h Q = WP d mJ9_min_7cf53 0 [some (.inl v0), some (.inl v1)] [] h (fun r h' => WP (d + 1) mX4_keep 25 ls (psh r [r0]) h' Q) := R_callS (st := .inl v1 :: .inl v0 :: [r0]) (M := mX4_keep) (pc := 22) (kd := 4) (n := 2) (M' := mJ9_min_7cf53) (as := [.inl v1, .inl v0]) (rest := [r0]) (en := [some (.inl v0), some (.inl v1)]) dX4_keep_22 rfl (Or.inl rfl) (Nat.le_of_ble_eq_true rfl) rfl (Nat.le_of_ble_eq_true rfl) rfl rfl rfl
theorem rX4_keep_25 {d : Nat} {h : Hp} {Q : Option PV → Hp → Prop} {st : List PV}{ls : List (Option PV)}{a : Nat} {v : Int} : WP d mX4_keep 25 ls (.inl v :: .inr (.inr a) :: st) h Q = ((hK h a).1 = 4 ∧ 200 ≤ a ∧ WP d mX4_keep 28 ls st (wI h a 2 v) Q) := R_put0 dX4_keep_25 rfl
theorem rX4_keep_28 {d : Nat} {h : Hp} {Q : Option PV → Hp → Prop} {ls : List (Option PV)} : WP d mX4_keep 28 ls [] h Q = Q none h := R_vret dX4_keep_28 rfl
theorem dX4_bringBack_0 : decode prog_6_method_4_code 0 = .ok (.aload_n 0, 1) := by decide +kernel
theorem dX4_bringBack_1 : decode prog_6_method_4_code 1 = .ok (.aload_n 0, 1) := by decide +kernel
theorem dX4_bringBack_2 : decode prog_6_method_4_code 2 = .ok (.getfield 18, 3) := by decide +kernel
theorem dX4_bringBack_5 : decode prog_6_method_4_code 5 = .ok (.bipush 11, 2) := by decide +kernel
theorem dX4_bringBack_7 : decode prog_6_method_4_code 7 = .ok (.iadd, 1) := by decide +kernel
theorem dX4_bringBack_8 : decode prog_6_method_4_code 8 = .ok (.iload_n 1, 1) := by decide +kernel
theorem dX4_bringBack_9 : decode prog_6_method_4_code 9 = .ok (.isub, 1) := by decide +kernel
theorem dX4_bringBack_10 : decode prog_6_method_4_code 10 = .ok (.bipush 11, 2) := by decide +kernel
theorem dX4_bringBack_12 : decode prog_6_method_4_code 12 = .ok (.irem, 1) := by decide +kernel
theorem dX4_bringBack_13 : decode prog_6_method_4_code 13 = .ok (.putfield 18, 3) := by decide +kernel
theorem dX4_bringBack_16 : decode prog_6_method_4_code 16 = .ok (.aload_n 0, 1) := by decide +kernel
theorem dX4_bringBack_17 : decode prog_6_method_4_code 17 = .ok (.dup, 1) := by decide +kernel
theorem dX4_bringBack_18 : decode prog_6_method_4_code 18 = .ok (.getfield 26, 3) := by decide +kernel
theorem dX4_bringBack_21 : decode prog_6_method_4_code 21 = .ok (.iload_n 1, 1) := by decide +kernel
theorem dX4_bringBack_22 : decode prog_6_method_4_code 22 = .ok (.isub, 1) := by decide +kernel
theorem dX4_bringBack_23 : decode prog_6_method_4_code 23 = .ok (.putfield 26, 3) := by decide +kernel
theorem dX4_bringBack_26 : decode prog_6_method_4_code 26 = .ok (.aload_n 2, 1) := by decide +kernel
theorem dX4_bringBack_27 : decode prog_6_method_4_code 27 = .ok (.aload_n 0, 1) := by decide +kernel
theorem dX4_bringBack_28 : decode prog_6_method_4_code 28 = .ok (.getfield 13, 3) := by decide +kernel
theorem dX4_bringBack_31 : decode prog_6_method_4_code 31 = .ok (.aload_n 0, 1) := by decide +kernel
theorem dX4_bringBack_32 : decode prog_6_method_4_code 32 = .ok (.getfield 18, 3) := by decide +kernel
theorem dX4_bringBack_35 : decode prog_6_method_4_code 35 = .ok (.aaload, 1) := by decide +kernel
theorem dX4_bringBack_36 : decode prog_6_method_4_code 36 = .ok (.invokevirtual 22, 3) := by decide +kernel
theorem dX4_bringBack_39 : decode prog_6_method_4_code 39 = .ok (.return_, 1) := by decide +kernel
theorem rX4_bringBack_0 {d : Nat} {h : Hp} {Q : Option PV → Hp → Prop} {st : List PV}{t : List (Option PV)} {v : Nat} : WP d mX4_bringBack 0 (some (.inr (.inr v)) :: t) st h Q = WP d mX4_bringBack 1 (some (.inr (.inr v)) :: t) (.inr (.inr v) :: st) h Q := WP_step dX4_bringBack_0 rfl rfl rfl
theorem rX4_bringBack_1 {d : Nat} {h : Hp} {Q : Option PV → Hp → Prop} {st : List PV}{t : List (Option PV)} {v : Nat} : WP d mX4_bringBack 1 (some (.inr (.inr v)) :: t) st h Q = WP d mX4_bringBack 2 (some (.inr (.inr v)) :: t) (.inr (.inr v) :: st) h Q := WP_step dX4_bringBack_1 rfl rfl rfl
theorem rX4_bringBack_2 {d : Nat} {h : Hp} {Q : Option PV → Hp → Prop} {st : List PV}{ls : List (Option PV)}{a : Nat} : WP d mX4_bringBack 2 ls (.inr (.inr a) :: st) h Q = ((hK h a).1 = 4 ∧ WP d mX4_bringBack 5 ls (.inl (hI h a 1) :: st) h Q) := R_get0 dX4_bringBack_2 rfl
theorem rX4_bringBack_5 {d : Nat} {h : Hp} {Q : Option PV → Hp → Prop} {st : List PV}{ls : List (Option PV)} : WP d mX4_bringBack 5 ls st h Q = WP d mX4_bringBack 7 ls (.inl (11) :: st) h Q := WP_step dX4_bringBack_5 rfl rfl rfl
theorem rX4_bringBack_7 {d : Nat} {h : Hp} {Q : Option PV → Hp → Prop} {st : List PV}{ls : List (Option PV)}{a b : Int} : WP d mX4_bringBack 7 ls (.inl b :: .inl a :: st) h Q = WP d mX4_bringBack 8 ls (.inl (w32 (a + b)) :: st) h Q := WP_step dX4_bringBack_7 rfl rfl rfl
theorem rX4_bringBack_8 {d : Nat} {h : Hp} {Q : Option PV → Hp → Prop} {st : List PV}{x0 : Option PV} {t : List (Option PV)} {v : Int} : WP d mX4_bringBack 8 (x0 :: some (.inl v) :: t) st h Q = WP d mX4_bringBack 9 (x0 :: some (.inl v) :: t) (.inl v :: st) h Q := WP_step dX4_bringBack_8 rfl rfl rfl
theorem rX4_bringBack_9 {d : Nat} {h : Hp} {Q : Option PV → Hp → Prop} {st : List PV}{ls : List (Option PV)}{a b : Int} : WP d mX4_bringBack 9 ls (.inl b :: .inl a :: st) h Q = WP d mX4_bringBack 10 ls (.inl (w32 (a - b)) :: st) h Q := WP_step dX4_bringBack_9 rfl rfl rfl
theorem rX4_bringBack_10 {d : Nat} {h : Hp} {Q : Option PV → Hp → Prop} {st : List PV}{ls : List (Option PV)} : WP d mX4_bringBack 10 ls st h Q = WP d mX4_bringBack 12 ls (.inl (11) :: st) h Q := WP_step dX4_bringBack_10 rfl rfl rfl
theorem rX4_bringBack_12 {d : Nat} {h : Hp} {Q : Option PV → Hp → Prop} {st : List PV}{ls : List (Option PV)}{a b : Int} : WP d mX4_bringBack 12 ls (.inl b :: .inl a :: st) h Q = (b ≠ 0 ∧ WP d mX4_bringBack 13 ls (.inl (a.tmod b) :: st) h Q) := R_rem dX4_bringBack_12
theorem rX4_bringBack_13 {d : Nat} {h : Hp} {Q : Option PV → Hp → Prop} {st : List PV}{ls : List (Option PV)}{a : Nat} {v : Int} : WP d mX4_bringBack 13 ls (.inl v :: .inr (.inr a) :: st) h Q = ((hK h a).1 = 4 ∧ 200 ≤ a ∧ WP d mX4_bringBack 16 ls st (wI h a 1 v) Q) := R_put0 dX4_bringBack_13 rfl
theorem rX4_bringBack_16 {d : Nat} {h : Hp} {Q : Option PV → Hp → Prop} {st : List PV}{t : List (Option PV)} {v : Nat} : WP d mX4_bringBack 16 (some (.inr (.inr v)) :: t) st h Q = WP d mX4_bringBack 17 (some (.inr (.inr v)) :: t) (.inr (.inr v) :: st) h Q := WP_step dX4_bringBack_16 rfl rfl rfl
theorem rX4_bringBack_17 {d : Nat} {h : Hp} {Q : Option PV → Hp → Prop} {st : List PV}{ls : List (Option PV)}{a : Nat} : WP d mX4_bringBack 17 ls (.inr (.inr a) :: st) h Q = WP d mX4_bringBack 18 ls (.inr (.inr a) :: .inr (.inr a) :: st) h Q := WP_step dX4_bringBack_17 rfl rfl rfl
theorem rX4_bringBack_18 {d : Nat} {h : Hp} {Q : Option PV → Hp → Prop} {st : List PV}{ls : List (Option PV)}{a : Nat} : WP d mX4_bringBack 18 ls (.inr (.inr a) :: st) h Q = ((hK h a).1 = 4 ∧ WP d mX4_bringBack 21 ls (.inl (hI h a 2) :: st) h Q) := R_get0 dX4_bringBack_18 rfl
theorem rX4_bringBack_21 {d : Nat} {h : Hp} {Q : Option PV → Hp → Prop} {st : List PV}{x0 : Option PV} {t : List (Option PV)} {v : Int} : WP d mX4_bringBack 21 (x0 :: some (.inl v) :: t) st h Q = WP d mX4_bringBack 22 (x0 :: some (.inl v) :: t) (.inl v :: st) h Q := WP_step dX4_bringBack_21 rfl rfl rfl
theorem rX4_bringBack_22 {d : Nat} {h : Hp} {Q : Option PV → Hp → Prop} {st : List PV}{ls : List (Option PV)}{a b : Int} : WP d mX4_bringBack 22 ls (.inl b :: .inl a :: st) h Q = WP d mX4_bringBack 23 ls (.inl (w32 (a - b)) :: st) h Q := WP_step dX4_bringBack_22 rfl rfl rfl
theorem rX4_bringBack_23 {d : Nat} {h : Hp} {Q : Option PV → Hp → Prop} {st : List PV}{ls : List (Option PV)}{a : Nat} {v : Int} : WP d mX4_bringBack 23 ls (.inl v :: .inr (.inr a) :: st) h Q = ((hK h a).1 = 4 ∧ 200 ≤ a ∧ WP d mX4_bringBack 26 ls st (wI h a 2 v) Q) := R_put0 dX4_bringBack_23 rfl
theorem rX4_bringBack_26 {d : Nat} {h : Hp} {Q : Option PV → Hp → Prop} {st : List PV}{x0 x1 : Option PV} {t : List (Option PV)} {v : Nat} : WP d mX4_bringBack 26 (x0 :: x1 :: some (.inr (.inr v)) :: t) st h Q = WP d mX4_bringBack 27 (x0 :: x1 :: some (.inr (.inr v)) :: t) (.inr (.inr v) :: st) h Q := WP_step dX4_bringBack_26 rfl rfl rfl
theorem rX4_bringBack_27 {d : Nat} {h : Hp} {Q : Option PV → Hp → Prop} {st : List PV}{t : List (Option PV)} {v : Nat} : WP d mX4_bringBack 27 (some (.inr (.inr v)) :: t) st h Q = WP d mX4_bringBack 28 (some (.inr (.inr v)) :: t) (.inr (.inr v) :: st) h Q := WP_step dX4_bringBack_27 rfl rfl rfl
theorem rX4_bringBack_28 {d : Nat} {h : Hp} {Q : Option PV → Hp → Prop} {st : List PV}{ls : List (Option PV)}{a : Nat} : WP d mX4_bringBack 28 ls (.inr (.inr a) :: st) h Q = ((hK h a).1 = 4 ∧ WP d mX4_bringBack 31 ls (.inr (.inr (hR h a 0)) :: st) h Q) := R_get2 dX4_bringBack_28 rfl
theorem rX4_bringBack_31 {d : Nat} {h : Hp} {Q : Option PV → Hp → Prop} {st : List PV}{t : List (Option PV)} {v : Nat} : WP d mX4_bringBack 31 (some (.inr (.inr v)) :: t) st h Q = WP d mX4_bringBack 32 (some (.inr (.inr v)) :: t) (.inr (.inr v) :: st) h Q := WP_step dX4_bringBack_31 rfl rfl rfl
theorem rX4_bringBack_32 {d : Nat} {h : Hp} {Q : Option PV → Hp → Prop} {st : List PV}{ls : List (Option PV)}{a : Nat} : WP d mX4_bringBack 32 ls (.inr (.inr a) :: st) h Q = ((hK h a).1 = 4 ∧ WP d mX4_bringBack 35 ls (.inl (hI h a 1) :: st) h Q) := R_get0 dX4_bringBack_32 rfl
theorem rX4_bringBack_35 {d : Nat} {h : Hp} {Q : Option PV → Hp → Prop} {st : List PV}{ls : List (Option PV)}{a : Nat} {z : Int} : WP d mX4_bringBack 35 ls (.inl z :: .inr (.inr a) :: st) h Q = (((hK h a).1 = 24 ∨ (hK h a).1 = 25 ∨ (hK h a).1 = 26) ∧ 0 ≤ z ∧ z < (hK h a).2 ∧ WP d mX4_bringBack 36 ls (.inr (.inr (hR h a z.toNat)) :: st) h Q) := R_aald dX4_bringBack_35
theorem rX4_bringBack_36 {d : Nat} {h : Hp} {Q : Option PV → Hp → Prop} {ls : List (Option PV)}{v0 : Nat} {v1 : Nat} : WP (d + 1) mX4_bringBack 36 ls (.inr (.inr v1) :: .inr (.inr v0) :: []) h Q = ((hK h v0).1 = 8 ∧ WP d mX8_become 0 [some (.inr (.inr v0)), some (.inr (.inr v1))] [] h (fun r h' => WP (d + 1) mX4_bringBack 39 ls (psh r []) h' Q)) := R_callV (st := .inr (.inr v1) :: .inr (.inr v0) :: []) (M := mX4_bringBack) (pc := 36) (kd := 0) (n := 2) (M' := mX8_become) (as := [.inr (.inr v1), .inr (.inr v0)]) (rest := []) (en := [some (.inr (.inr v0)), some (.inr (.inr v1))]) dX4_bringBack_36 rfl (Nat.le_of_ble_eq_true rfl) (Nat.le_of_ble_eq_true rfl) rfl rfl (Nat.le_of_ble_eq_true rfl) rfl rfl rfl
theorem rX4_bringBack_39 {d : Nat} {h : Hp} {Q : Option PV → Hp → Prop} {ls : List (Option PV)} : WP d mX4_bringBack 39 ls [] h Q = Q none h := R_vret dX4_bringBack_39 rfl
theorem dX4_forget_0 : decode prog_6_method_5_code 0 = .ok (.aload_n 0, 1) := by decide +kernel
theorem dX4_forget_1 : decode prog_6_method_5_code 1 = .ok (.iconst 0, 1) := by decide +kernel
theorem dX4_forget_2 : decode prog_6_method_5_code 2 = .ok (.putfield 26, 3) := by decide +kernel
theorem dX4_forget_5 : decode prog_6_method_5_code 5 = .ok (.return_, 1) := by decide +kernel
theorem rX4_forget_0 {d : Nat} {h : Hp} {Q : Option PV → Hp → Prop} {st : List PV}{t : List (Option PV)} {v : Nat} : WP d mX4_forget 0 (some (.inr (.inr v)) :: t) st h Q = WP d mX4_forget 1 (some (.inr (.inr v)) :: t) (.inr (.inr v) :: st) h Q := WP_step dX4_forget_0 rfl rfl rfl
theorem rX4_forget_1 {d : Nat} {h : Hp} {Q : Option PV → Hp → Prop} {st : List PV}{ls : List (Option PV)} : WP d mX4_forget 1 ls st h Q = WP d mX4_forget 2 ls (.inl (0) :: st) h Q := WP_step dX4_forget_1 rfl rfl rfl
theorem rX4_forget_2 {d : Nat} {h : Hp} {Q : Option PV → Hp → Prop} {st : List PV}{ls : List (Option PV)}{a : Nat} {v : Int} : WP d mX4_forget 2 ls (.inl v :: .inr (.inr a) :: st) h Q = ((hK h a).1 = 4 ∧ 200 ≤ a ∧ WP d mX4_forget 5 ls st (wI h a 2 v) Q) := R_put0 dX4_forget_2 rfl
theorem rX4_forget_5 {d : Nat} {h : Hp} {Q : Option PV → Hp → Prop} {ls : List (Option PV)} : WP d mX4_forget 5 ls [] h Q = Q none h := R_vret dX4_forget_5 rfl
