theorem dX8_init_0 : decode prog_10_method_1_code 0 = .ok (.aload_n 0, 1) := by decide +kernel
theorem dX8_init_1 : decode prog_10_method_1_code 1 = .ok (.invokespecial 3, 3) := by decide +kernel
theorem dX8_init_4 : decode prog_10_method_1_code 4 = .ok (.aload_n 0, 1) := by decide +kernel
theorem dX8_init_5 : decode prog_10_method_1_code 5 = .ok (.bipush 6, 2) := by decide +kernel
theorem dX8_init_7 : decode prog_10_method_1_code 7 = .ok (.newarray .int, 2) := by decide +kernel
theorem dX8_init_9 : decode prog_10_method_1_code 9 = .ok (.putfield 9, 3) := by decide +kernel
theorem dX8_init_12 : decode prog_10_method_1_code 12 = .ok (.aload_n 0, 1) := by decide +kernel
theorem dX8_init_13 : decode prog_10_method_1_code 13 = .ok (.bipush 6, 2) := by decide +kernel
theorem dX8_init_15 : decode prog_10_method_1_code 15 = .ok (.newarray .int, 2) := by decide +kernel
theorem dX8_init_17 : decode prog_10_method_1_code 17 = .ok (.putfield 15, 3) := by decide +kernel
theorem dX8_init_20 : decode prog_10_method_1_code 20 = .ok (.return_, 1) := by decide +kernel
theorem rX8_init_0 {d : Nat} {h : Hp} {Q : Option PV → Hp → Prop} {st : List PV}{t : List (Option PV)} {v : Nat} : WP d mX8_init 0 (some (.inr (.inr v)) :: t) st h Q = WP d mX8_init 1 (some (.inr (.inr v)) :: t) (.inr (.inr v) :: st) h Q := WP_step dX8_init_0 rfl rfl rfl
theorem rX8_init_1 {d : Nat} {h : Hp} {Q : Option PV → Hp → Prop} {ls : List (Option PV)}{a : Nat} : WP d mX8_init 1 ls (.inr (.inr a) :: []) h Q = (200 ≤ a ∧ WP d mX8_init 4 ls [] h Q) := R_obj (n := 1) (M' := mX0_init) dX8_init_1 rfl rfl
theorem rX8_init_4 {d : Nat} {h : Hp} {Q : Option PV → Hp → Prop} {st : List PV}{t : List (Option PV)} {v : Nat} : WP d mX8_init 4 (some (.inr (.inr v)) :: t) st h Q = WP d mX8_init 5 (some (.inr (.inr v)) :: t) (.inr (.inr v) :: st) h Q := WP_step dX8_init_4 rfl rfl rfl
theorem rX8_init_5 {d : Nat} {h : Hp} {Q : Option PV → Hp → Prop} {st : List PV}{ls : List (Option PV)} : WP d mX8_init 5 ls st h Q = WP d mX8_init 7 ls (.inl (6) :: st) h Q := WP_step dX8_init_5 rfl rfl rfl
theorem rX8_init_7 {d : Nat} {h : Hp} {Q : Option PV → Hp → Prop} {st : List PV}{ls : List (Option PV)}{z : Int} : WP d mX8_init 7 ls (.inl z :: st) h Q = ((0 ≤ z ∧ z ≤ 100000) ∧ WP d mX8_init 9 ls (.inr (.inr (200 + hN h)) :: st) (nw h 21 z.toNat z.toNat) Q) := R_nwa dX8_init_7 rfl (by decide)
theorem rX8_init_9 {d : Nat} {h : Hp} {Q : Option PV → Hp → Prop} {st : List PV}{ls : List (Option PV)}{a : Nat} {v : Nat} : WP d mX8_init 9 ls (.inr (.inr v) :: .inr (.inr a) :: st) h Q = ((hK h a).1 = 8 ∧ 200 ≤ a ∧ WP d mX8_init 12 ls st (wR h a 0 v) Q) := R_put2 dX8_init_9 rfl
theorem rX8_init_12 {d : Nat} {h : Hp} {Q : Option PV → Hp → Prop} {st : List PV}{t : List (Option PV)} {v : Nat} : WP d mX8_init 12 (some (.inr (.inr v)) :: t) st h Q = WP d mX8_init 13 (some (.inr (.inr v)) :: t) (.inr (.inr v) :: st) h Q := WP_step dX8_init_12 rfl rfl rfl
theorem rX8_init_13 {d : Nat} {h : Hp} {Q : Option PV → Hp → Prop} {st : List PV}{ls : List (Option PV)} : WP d mX8_init 13 ls st h Q = WP d mX8_init 15 ls (.inl (6) :: st) h Q := WP_step dX8_init_13 rfl rfl rfl
theorem rX8_init_15 {d : Nat} {h : Hp} {Q : Option PV → Hp → Prop} {st : List PV}{ls : List (Option PV)}{z : Int} : WP d mX8_init 15 ls (.inl z :: st) h Q = ((0 ≤ z ∧ z ≤ 100000) ∧ WP d mX8_init 17 ls (.inr (.inr (200 + hN h)) :: st) (nw h 21 z.toNat z.toNat) Q) := R_nwa dX8_init_15 rfl (by decide)
theorem rX8_init_17 {d : Nat} {h : Hp} {Q : Option PV → Hp → Prop} {st : List PV}{ls : List (Option PV)}{a : Nat} {v : Nat} : WP d mX8_init 17 ls (.inr (.inr v) :: .inr (.inr a) :: st) h Q = ((hK h a).1 = 8 ∧ 200 ≤ a ∧ WP d mX8_init 20 ls st (wR h a 1 v) Q) := R_put2 dX8_init_17 rfl
theorem rX8_init_20 {d : Nat} {h : Hp} {Q : Option PV → Hp → Prop} {ls : List (Option PV)} : WP d mX8_init 20 ls [] h Q = Q none h := R_vret dX8_init_20 rfl
theorem dX8_begin_0 : decode prog_10_method_2_code 0 = .ok (.aload_n 0, 1) := by decide +kernel
theorem dX8_begin_1 : decode prog_10_method_2_code 1 = .ok (.aload_n 1, 1) := by decide +kernel
theorem dX8_begin_2 : decode prog_10_method_2_code 2 = .ok (.getfield 18, 3) := by decide +kernel
theorem dX8_begin_5 : decode prog_10_method_2_code 5 = .ok (.putfield 24, 3) := by decide +kernel
theorem dX8_begin_8 : decode prog_10_method_2_code 8 = .ok (.aload_n 0, 1) := by decide +kernel
theorem dX8_begin_9 : decode prog_10_method_2_code 9 = .ok (.aload_n 1, 1) := by decide +kernel
theorem dX8_begin_10 : decode prog_10_method_2_code 10 = .ok (.getfield 25, 3) := by decide +kernel
theorem dX8_begin_13 : decode prog_10_method_2_code 13 = .ok (.putfield 28, 3) := by decide +kernel
theorem dX8_begin_16 : decode prog_10_method_2_code 16 = .ok (.aload_n 1, 1) := by decide +kernel
theorem dX8_begin_17 : decode prog_10_method_2_code 17 = .ok (.getfield 31, 3) := by decide +kernel
theorem dX8_begin_20 : decode prog_10_method_2_code 20 = .ok (.iconst 0, 1) := by decide +kernel
theorem dX8_begin_21 : decode prog_10_method_2_code 21 = .ok (.aload_n 0, 1) := by decide +kernel
theorem dX8_begin_22 : decode prog_10_method_2_code 22 = .ok (.getfield 9, 3) := by decide +kernel
theorem dX8_begin_25 : decode prog_10_method_2_code 25 = .ok (.iconst 0, 1) := by decide +kernel
theorem dX8_begin_26 : decode prog_10_method_2_code 26 = .ok (.bipush 6, 2) := by decide +kernel
theorem dX8_begin_28 : decode prog_10_method_2_code 28 = .ok (.invokestatic 32, 3) := by decide +kernel
theorem dX8_begin_31 : decode prog_10_method_2_code 31 = .ok (.aload_n 1, 1) := by decide +kernel
theorem dX8_begin_32 : decode prog_10_method_2_code 32 = .ok (.getfield 38, 3) := by decide +kernel
theorem dX8_begin_35 : decode prog_10_method_2_code 35 = .ok (.iconst 0, 1) := by decide +kernel
theorem dX8_begin_36 : decode prog_10_method_2_code 36 = .ok (.aload_n 0, 1) := by decide +kernel
theorem dX8_begin_37 : decode prog_10_method_2_code 37 = .ok (.getfield 15, 3) := by decide +kernel
theorem dX8_begin_40 : decode prog_10_method_2_code 40 = .ok (.iconst 0, 1) := by decide +kernel
theorem dX8_begin_41 : decode prog_10_method_2_code 41 = .ok (.bipush 6, 2) := by decide +kernel
theorem dX8_begin_43 : decode prog_10_method_2_code 43 = .ok (.invokestatic 32, 3) := by decide +kernel
theorem dX8_begin_46 : decode prog_10_method_2_code 46 = .ok (.return_, 1) := by decide +kernel
theorem rX8_begin_0 {d : Nat} {h : Hp} {Q : Option PV → Hp → Prop} {st : List PV}{t : List (Option PV)} {v : Nat} : WP d mX8_begin 0 (some (.inr (.inr v)) :: t) st h Q = WP d mX8_begin 1 (some (.inr (.inr v)) :: t) (.inr (.inr v) :: st) h Q := WP_step dX8_begin_0 rfl rfl rfl
theorem rX8_begin_1 {d : Nat} {h : Hp} {Q : Option PV → Hp → Prop} {st : List PV}{x0 : Option PV} {t : List (Option PV)} {v : Nat} : WP d mX8_begin 1 (x0 :: some (.inr (.inr v)) :: t) st h Q = WP d mX8_begin 2 (x0 :: some (.inr (.inr v)) :: t) (.inr (.inr v) :: st) h Q := WP_step dX8_begin_1 rfl rfl rfl
theorem rX8_begin_2 {d : Nat} {h : Hp} {Q : Option PV → Hp → Prop} {st : List PV}{ls : List (Option PV)}{a : Nat} : WP d mX8_begin 2 ls (.inr (.inr a) :: st) h Q = ((hK h a).1 = 5 ∧ WP d mX8_begin 5 ls (.inl (hI h a 8) :: st) h Q) := R_get0 dX8_begin_2 rfl
theorem rX8_begin_5 {d : Nat} {h : Hp} {Q : Option PV → Hp → Prop} {st : List PV}{ls : List (Option PV)}{a : Nat} {v : Int} : WP d mX8_begin 5 ls (.inl v :: .inr (.inr a) :: st) h Q = ((hK h a).1 = 8 ∧ 200 ≤ a ∧ WP d mX8_begin 8 ls st (wI h a 2 v) Q) := R_put0 dX8_begin_5 rfl
theorem rX8_begin_8 {d : Nat} {h : Hp} {Q : Option PV → Hp → Prop} {st : List PV}{t : List (Option PV)} {v : Nat} : WP d mX8_begin 8 (some (.inr (.inr v)) :: t) st h Q = WP d mX8_begin 9 (some (.inr (.inr v)) :: t) (.inr (.inr v) :: st) h Q := WP_step dX8_begin_8 rfl rfl rfl
theorem rX8_begin_9 {d : Nat} {h : Hp} {Q : Option PV → Hp → Prop} {st : List PV}{x0 : Option PV} {t : List (Option PV)} {v : Nat} : WP d mX8_begin 9 (x0 :: some (.inr (.inr v)) :: t) st h Q = WP d mX8_begin 10 (x0 :: some (.inr (.inr v)) :: t) (.inr (.inr v) :: st) h Q := WP_step dX8_begin_9 rfl rfl rfl
theorem rX8_begin_10 {d : Nat} {h : Hp} {Q : Option PV → Hp → Prop} {st : List PV}{ls : List (Option PV)}{a : Nat} : WP d mX8_begin 10 ls (.inr (.inr a) :: st) h Q = ((hK h a).1 = 5 ∧ WP d mX8_begin 13 ls (.inl (hI h a 9) :: st) h Q) := R_get0 dX8_begin_10 rfl
theorem rX8_begin_13 {d : Nat} {h : Hp} {Q : Option PV → Hp → Prop} {st : List PV}{ls : List (Option PV)}{a : Nat} {v : Int} : WP d mX8_begin 13 ls (.inl v :: .inr (.inr a) :: st) h Q = ((hK h a).1 = 8 ∧ 200 ≤ a ∧ WP d mX8_begin 16 ls st (wI h a 3 v) Q) := R_put0 dX8_begin_13 rfl
theorem rX8_begin_16 {d : Nat} {h : Hp} {Q : Option PV → Hp → Prop} {st : List PV}{x0 : Option PV} {t : List (Option PV)} {v : Nat} : WP d mX8_begin 16 (x0 :: some (.inr (.inr v)) :: t) st h Q = WP d mX8_begin 17 (x0 :: some (.inr (.inr v)) :: t) (.inr (.inr v) :: st) h Q := WP_step dX8_begin_16 rfl rfl rfl
theorem rX8_begin_17 {d : Nat} {h : Hp} {Q : Option PV → Hp → Prop} {st : List PV}{ls : List (Option PV)}{a : Nat} : WP d mX8_begin 17 ls (.inr (.inr a) :: st) h Q = ((hK h a).1 = 5 ∧ WP d mX8_begin 20 ls (.inr (.inr (hR h a 3)) :: st) h Q) := R_get2 dX8_begin_17 rfl
theorem rX8_begin_20 {d : Nat} {h : Hp} {Q : Option PV → Hp → Prop} {st : List PV}{ls : List (Option PV)} : WP d mX8_begin 20 ls st h Q = WP d mX8_begin 21 ls (.inl (0) :: st) h Q := WP_step dX8_begin_20 rfl rfl rfl
theorem rX8_begin_21 {d : Nat} {h : Hp} {Q : Option PV → Hp → Prop} {st : List PV}{t : List (Option PV)} {v : Nat} : WP d mX8_begin 21 (some (.inr (.inr v)) :: t) st h Q = WP d mX8_begin 22 (some (.inr (.inr v)) :: t) (.inr (.inr v) :: st) h Q := WP_step dX8_begin_21 rfl rfl rfl
theorem rX8_begin_22 {d : Nat} {h : Hp} {Q : Option PV → Hp → Prop} {st : List PV}{ls : List (Option PV)}{a : Nat} : WP d mX8_begin 22 ls (.inr (.inr a) :: st) h Q = ((hK h a).1 = 8 ∧ WP d mX8_begin 25 ls (.inr (.inr (hR h a 0)) :: st) h Q) := R_get2 dX8_begin_22 rfl
theorem rX8_begin_25 {d : Nat} {h : Hp} {Q : Option PV → Hp → Prop} {st : List PV}{ls : List (Option PV)} : WP d mX8_begin 25 ls st h Q = WP d mX8_begin 26 ls (.inl (0) :: st) h Q := WP_step dX8_begin_25 rfl rfl rfl
theorem rX8_begin_26 {d : Nat} {h : Hp} {Q : Option PV → Hp → Prop} {st : List PV}{ls : List (Option PV)} : WP d mX8_begin 26 ls st h Q = WP d mX8_begin 28 ls (.inl (6) :: st) h Q := WP_step dX8_begin_26 rfl rfl rfl
theorem rX8_begin_28 {d : Nat} {h : Hp} {Q : Option PV → Hp → Prop} {ls : List (Option PV)}{s s' : Nat} {n dp sp : Int} : WP d mX8_begin 28 ls (.inl n :: .inl dp :: .inr (.inr s') :: .inl sp :: .inr (.inr s) :: []) h Q = ((200 ≤ s ∧ 200 ≤ s' ∧ (hK h s).1 = 21 ∧ (hK h s').1 = 21 ∧ 0 ≤ n ∧ 0 ≤ sp ∧ 0 ≤ dp ∧ sp + n ≤ (hK h s).2 ∧ dp + n ≤ (hK h s').2) ∧ WP d mX8_begin 31 ls [] (cpI h s sp.toNat s' dp.toNat n.toNat) Q) := R_cpy (n' := 5) (M' := mX0_init) dX8_begin_28 rfl rfl
theorem rX8_begin_31 {d : Nat} {h : Hp} {Q : Option PV → Hp → Prop} {st : List PV}{x0 : Option PV} {t : List (Option PV)} {v : Nat} : WP d mX8_begin 31 (x0 :: some (.inr (.inr v)) :: t) st h Q = WP d mX8_begin 32 (x0 :: some (.inr (.inr v)) :: t) (.inr (.inr v) :: st) h Q := WP_step dX8_begin_31 rfl rfl rfl
theorem rX8_begin_32 {d : Nat} {h : Hp} {Q : Option PV → Hp → Prop} {st : List PV}{ls : List (Option PV)}{a : Nat} : WP d mX8_begin 32 ls (.inr (.inr a) :: st) h Q = ((hK h a).1 = 5 ∧ WP d mX8_begin 35 ls (.inr (.inr (hR h a 4)) :: st) h Q) := R_get2 dX8_begin_32 rfl
theorem rX8_begin_35 {d : Nat} {h : Hp} {Q : Option PV → Hp → Prop} {st : List PV}{ls : List (Option PV)} : WP d mX8_begin 35 ls st h Q = WP d mX8_begin 36 ls (.inl (0) :: st) h Q := WP_step dX8_begin_35 rfl rfl rfl
theorem rX8_begin_36 {d : Nat} {h : Hp} {Q : Option PV → Hp → Prop} {st : List PV}{t : List (Option PV)} {v : Nat} : WP d mX8_begin 36 (some (.inr (.inr v)) :: t) st h Q = WP d mX8_begin 37 (some (.inr (.inr v)) :: t) (.inr (.inr v) :: st) h Q := WP_step dX8_begin_36 rfl rfl rfl
theorem rX8_begin_37 {d : Nat} {h : Hp} {Q : Option PV → Hp → Prop} {st : List PV}{ls : List (Option PV)}{a : Nat} : WP d mX8_begin 37 ls (.inr (.inr a) :: st) h Q = ((hK h a).1 = 8 ∧ WP d mX8_begin 40 ls (.inr (.inr (hR h a 1)) :: st) h Q) := R_get2 dX8_begin_37 rfl
theorem rX8_begin_40 {d : Nat} {h : Hp} {Q : Option PV → Hp → Prop} {st : List PV}{ls : List (Option PV)} : WP d mX8_begin 40 ls st h Q = WP d mX8_begin 41 ls (.inl (0) :: st) h Q := WP_step dX8_begin_40 rfl rfl rfl
theorem rX8_begin_41 {d : Nat} {h : Hp} {Q : Option PV → Hp → Prop} {st : List PV}{ls : List (Option PV)} : WP d mX8_begin 41 ls st h Q = WP d mX8_begin 43 ls (.inl (6) :: st) h Q := WP_step dX8_begin_41 rfl rfl rfl
theorem rX8_begin_43 {d : Nat} {h : Hp} {Q : Option PV → Hp → Prop} {ls : List (Option PV)}{s s' : Nat} {n dp sp : Int} : WP d mX8_begin 43 ls (.inl n :: .inl dp :: .inr (.inr s') :: .inl sp :: .inr (.inr s) :: []) h Q = ((200 ≤ s ∧ 200 ≤ s' ∧ (hK h s).1 = 21 ∧ (hK h s').1 = 21 ∧ 0 ≤ n ∧ 0 ≤ sp ∧ 0 ≤ dp ∧ sp + n ≤ (hK h s).2 ∧ dp + n ≤ (hK h s').2) ∧ WP d mX8_begin 46 ls [] (cpI h s sp.toNat s' dp.toNat n.toNat) Q) := R_cpy (n' := 5) (M' := mX0_init) dX8_begin_43 rfl rfl
theorem rX8_begin_46 {d : Nat} {h : Hp} {Q : Option PV → Hp → Prop} {ls : List (Option PV)} : WP d mX8_begin 46 ls [] h Q = Q none h := R_vret dX8_begin_46 rfl
theorem dX8_become_0 : decode prog_10_method_3_code 0 = .ok (.aload_n 0, 1) := by decide +kernel
theorem dX8_become_1 : decode prog_10_method_3_code 1 = .ok (.aload_n 1, 1) := by decide +kernel
theorem dX8_become_2 : decode prog_10_method_3_code 2 = .ok (.getfield 24, 3) := by decide +kernel
theorem dX8_become_5 : decode prog_10_method_3_code 5 = .ok (.putfield 24, 3) := by decide +kernel
theorem dX8_become_8 : decode prog_10_method_3_code 8 = .ok (.aload_n 0, 1) := by decide +kernel
theorem dX8_become_9 : decode prog_10_method_3_code 9 = .ok (.aload_n 1, 1) := by decide +kernel
theorem dX8_become_10 : decode prog_10_method_3_code 10 = .ok (.getfield 28, 3) := by decide +kernel
theorem dX8_become_13 : decode prog_10_method_3_code 13 = .ok (.putfield 28, 3) := by decide +kernel
theorem dX8_become_16 : decode prog_10_method_3_code 16 = .ok (.aload_n 1, 1) := by decide +kernel
theorem dX8_become_17 : decode prog_10_method_3_code 17 = .ok (.getfield 9, 3) := by decide +kernel
theorem dX8_become_20 : decode prog_10_method_3_code 20 = .ok (.iconst 0, 1) := by decide +kernel
theorem dX8_become_21 : decode prog_10_method_3_code 21 = .ok (.aload_n 0, 1) := by decide +kernel
theorem dX8_become_22 : decode prog_10_method_3_code 22 = .ok (.getfield 9, 3) := by decide +kernel
theorem dX8_become_25 : decode prog_10_method_3_code 25 = .ok (.iconst 0, 1) := by decide +kernel
theorem dX8_become_26 : decode prog_10_method_3_code 26 = .ok (.bipush 6, 2) := by decide +kernel
theorem dX8_become_28 : decode prog_10_method_3_code 28 = .ok (.invokestatic 32, 3) := by decide +kernel
theorem dX8_become_31 : decode prog_10_method_3_code 31 = .ok (.aload_n 1, 1) := by decide +kernel
theorem dX8_become_32 : decode prog_10_method_3_code 32 = .ok (.getfield 15, 3) := by decide +kernel
theorem dX8_become_35 : decode prog_10_method_3_code 35 = .ok (.iconst 0, 1) := by decide +kernel
theorem dX8_become_36 : decode prog_10_method_3_code 36 = .ok (.aload_n 0, 1) := by decide +kernel
theorem dX8_become_37 : decode prog_10_method_3_code 37 = .ok (.getfield 15, 3) := by decide +kernel
theorem dX8_become_40 : decode prog_10_method_3_code 40 = .ok (.iconst 0, 1) := by decide +kernel
theorem dX8_become_41 : decode prog_10_method_3_code 41 = .ok (.bipush 6, 2) := by decide +kernel
theorem dX8_become_43 : decode prog_10_method_3_code 43 = .ok (.invokestatic 32, 3) := by decide +kernel
theorem dX8_become_46 : decode prog_10_method_3_code 46 = .ok (.return_, 1) := by decide +kernel
theorem rX8_become_0 {d : Nat} {h : Hp} {Q : Option PV → Hp → Prop} {st : List PV}{t : List (Option PV)} {v : Nat} : WP d mX8_become 0 (some (.inr (.inr v)) :: t) st h Q = WP d mX8_become 1 (some (.inr (.inr v)) :: t) (.inr (.inr v) :: st) h Q := WP_step dX8_become_0 rfl rfl rfl
theorem rX8_become_1 {d : Nat} {h : Hp} {Q : Option PV → Hp → Prop} {st : List PV}{x0 : Option PV} {t : List (Option PV)} {v : Nat} : WP d mX8_become 1 (x0 :: some (.inr (.inr v)) :: t) st h Q = WP d mX8_become 2 (x0 :: some (.inr (.inr v)) :: t) (.inr (.inr v) :: st) h Q := WP_step dX8_become_1 rfl rfl rfl
theorem rX8_become_2 {d : Nat} {h : Hp} {Q : Option PV → Hp → Prop} {st : List PV}{ls : List (Option PV)}{a : Nat} : WP d mX8_become 2 ls (.inr (.inr a) :: st) h Q = ((hK h a).1 = 8 ∧ WP d mX8_become 5 ls (.inl (hI h a 2) :: st) h Q) := R_get0 dX8_become_2 rfl
theorem rX8_become_5 {d : Nat} {h : Hp} {Q : Option PV → Hp → Prop} {st : List PV}{ls : List (Option PV)}{a : Nat} {v : Int} : WP d mX8_become 5 ls (.inl v :: .inr (.inr a) :: st) h Q = ((hK h a).1 = 8 ∧ 200 ≤ a ∧ WP d mX8_become 8 ls st (wI h a 2 v) Q) := R_put0 dX8_become_5 rfl
theorem rX8_become_8 {d : Nat} {h : Hp} {Q : Option PV → Hp → Prop} {st : List PV}{t : List (Option PV)} {v : Nat} : WP d mX8_become 8 (some (.inr (.inr v)) :: t) st h Q = WP d mX8_become 9 (some (.inr (.inr v)) :: t) (.inr (.inr v) :: st) h Q := WP_step dX8_become_8 rfl rfl rfl
theorem rX8_become_9 {d : Nat} {h : Hp} {Q : Option PV → Hp → Prop} {st : List PV}{x0 : Option PV} {t : List (Option PV)} {v : Nat} : WP d mX8_become 9 (x0 :: some (.inr (.inr v)) :: t) st h Q = WP d mX8_become 10 (x0 :: some (.inr (.inr v)) :: t) (.inr (.inr v) :: st) h Q := WP_step dX8_become_9 rfl rfl rfl
theorem rX8_become_10 {d : Nat} {h : Hp} {Q : Option PV → Hp → Prop} {st : List PV}{ls : List (Option PV)}{a : Nat} : WP d mX8_become 10 ls (.inr (.inr a) :: st) h Q = ((hK h a).1 = 8 ∧ WP d mX8_become 13 ls (.inl (hI h a 3) :: st) h Q) := R_get0 dX8_become_10 rfl
theorem rX8_become_13 {d : Nat} {h : Hp} {Q : Option PV → Hp → Prop} {st : List PV}{ls : List (Option PV)}{a : Nat} {v : Int} : WP d mX8_become 13 ls (.inl v :: .inr (.inr a) :: st) h Q = ((hK h a).1 = 8 ∧ 200 ≤ a ∧ WP d mX8_become 16 ls st (wI h a 3 v) Q) := R_put0 dX8_become_13 rfl
theorem rX8_become_16 {d : Nat} {h : Hp} {Q : Option PV → Hp → Prop} {st : List PV}{x0 : Option PV} {t : List (Option PV)} {v : Nat} : WP d mX8_become 16 (x0 :: some (.inr (.inr v)) :: t) st h Q = WP d mX8_become 17 (x0 :: some (.inr (.inr v)) :: t) (.inr (.inr v) :: st) h Q := WP_step dX8_become_16 rfl rfl rfl
theorem rX8_become_17 {d : Nat} {h : Hp} {Q : Option PV → Hp → Prop} {st : List PV}{ls : List (Option PV)}{a : Nat} : WP d mX8_become 17 ls (.inr (.inr a) :: st) h Q = ((hK h a).1 = 8 ∧ WP d mX8_become 20 ls (.inr (.inr (hR h a 0)) :: st) h Q) := R_get2 dX8_become_17 rfl
theorem rX8_become_20 {d : Nat} {h : Hp} {Q : Option PV → Hp → Prop} {st : List PV}{ls : List (Option PV)} : WP d mX8_become 20 ls st h Q = WP d mX8_become 21 ls (.inl (0) :: st) h Q := WP_step dX8_become_20 rfl rfl rfl
theorem rX8_become_21 {d : Nat} {h : Hp} {Q : Option PV → Hp → Prop} {st : List PV}{t : List (Option PV)} {v : Nat} : WP d mX8_become 21 (some (.inr (.inr v)) :: t) st h Q = WP d mX8_become 22 (some (.inr (.inr v)) :: t) (.inr (.inr v) :: st) h Q := WP_step dX8_become_21 rfl rfl rfl
theorem rX8_become_22 {d : Nat} {h : Hp} {Q : Option PV → Hp → Prop} {st : List PV}{ls : List (Option PV)}{a : Nat} : WP d mX8_become 22 ls (.inr (.inr a) :: st) h Q = ((hK h a).1 = 8 ∧ WP d mX8_become 25 ls (.inr (.inr (hR h a 0)) :: st) h Q) := R_get2 dX8_become_22 rfl
theorem rX8_become_25 {d : Nat} {h : Hp} {Q : Option PV → Hp → Prop} {st : List PV}{ls : List (Option PV)} : WP d mX8_become 25 ls st h Q = WP d mX8_become 26 ls (.inl (0) :: st) h Q := WP_step dX8_become_25 rfl rfl rfl
theorem rX8_become_26 {d : Nat} {h : Hp} {Q : Option PV → Hp → Prop} {st : List PV}{ls : List (Option PV)} : WP d mX8_become 26 ls st h Q = WP d mX8_become 28 ls (.inl (6) :: st) h Q := WP_step dX8_become_26 rfl rfl rfl
theorem rX8_become_28 {d : Nat} {h : Hp} {Q : Option PV → Hp → Prop} {ls : List (Option PV)}{s s' : Nat} {n dp sp : Int} : WP d mX8_become 28 ls (.inl n :: .inl dp :: .inr (.inr s') :: .inl sp :: .inr (.inr s) :: []) h Q = ((200 ≤ s ∧ 200 ≤ s' ∧ (hK h s).1 = 21 ∧ (hK h s').1 = 21 ∧ 0 ≤ n ∧ 0 ≤ sp ∧ 0 ≤ dp ∧ sp + n ≤ (hK h s).2 ∧ dp + n ≤ (hK h s').2) ∧ WP d mX8_become 31 ls [] (cpI h s sp.toNat s' dp.toNat n.toNat) Q) := R_cpy (n' := 5) (M' := mX0_init) dX8_become_28 rfl rfl
theorem rX8_become_31 {d : Nat} {h : Hp} {Q : Option PV → Hp → Prop} {st : List PV}{x0 : Option PV} {t : List (Option PV)} {v : Nat} : WP d mX8_become 31 (x0 :: some (.inr (.inr v)) :: t) st h Q = WP d mX8_become 32 (x0 :: some (.inr (.inr v)) :: t) (.inr (.inr v) :: st) h Q := WP_step dX8_become_31 rfl rfl rfl
theorem rX8_become_32 {d : Nat} {h : Hp} {Q : Option PV → Hp → Prop} {st : List PV}{ls : List (Option PV)}{a : Nat} : WP d mX8_become 32 ls (.inr (.inr a) :: st) h Q = ((hK h a).1 = 8 ∧ WP d mX8_become 35 ls (.inr (.inr (hR h a 1)) :: st) h Q) := R_get2 dX8_become_32 rfl
theorem rX8_become_35 {d : Nat} {h : Hp} {Q : Option PV → Hp → Prop} {st : List PV}{ls : List (Option PV)} : WP d mX8_become 35 ls st h Q = WP d mX8_become 36 ls (.inl (0) :: st) h Q := WP_step dX8_become_35 rfl rfl rfl
theorem rX8_become_36 {d : Nat} {h : Hp} {Q : Option PV → Hp → Prop} {st : List PV}{t : List (Option PV)} {v : Nat} : WP d mX8_become 36 (some (.inr (.inr v)) :: t) st h Q = WP d mX8_become 37 (some (.inr (.inr v)) :: t) (.inr (.inr v) :: st) h Q := WP_step dX8_become_36 rfl rfl rfl
theorem rX8_become_37 {d : Nat} {h : Hp} {Q : Option PV → Hp → Prop} {st : List PV}{ls : List (Option PV)}{a : Nat} : WP d mX8_become 37 ls (.inr (.inr a) :: st) h Q = ((hK h a).1 = 8 ∧ WP d mX8_become 40 ls (.inr (.inr (hR h a 1)) :: st) h Q) := R_get2 dX8_become_37 rfl
theorem rX8_become_40 {d : Nat} {h : Hp} {Q : Option PV → Hp → Prop} {st : List PV}{ls : List (Option PV)} : WP d mX8_become 40 ls st h Q = WP d mX8_become 41 ls (.inl (0) :: st) h Q := WP_step dX8_become_40 rfl rfl rfl
theorem rX8_become_41 {d : Nat} {h : Hp} {Q : Option PV → Hp → Prop} {st : List PV}{ls : List (Option PV)} : WP d mX8_become 41 ls st h Q = WP d mX8_become 43 ls (.inl (6) :: st) h Q := WP_step dX8_become_41 rfl rfl rfl
theorem rX8_become_43 {d : Nat} {h : Hp} {Q : Option PV → Hp → Prop} {ls : List (Option PV)}{s s' : Nat} {n dp sp : Int} : WP d mX8_become 43 ls (.inl n :: .inl dp :: .inr (.inr s') :: .inl sp :: .inr (.inr s) :: []) h Q = ((200 ≤ s ∧ 200 ≤ s' ∧ (hK h s).1 = 21 ∧ (hK h s').1 = 21 ∧ 0 ≤ n ∧ 0 ≤ sp ∧ 0 ≤ dp ∧ sp + n ≤ (hK h s).2 ∧ dp + n ≤ (hK h s').2) ∧ WP d mX8_become 46 ls [] (cpI h s sp.toNat s' dp.toNat n.toNat) Q) := R_cpy (n' := 5) (M' := mX0_init) dX8_become_43 rfl rfl
theorem rX8_become_46 {d : Nat} {h : Hp} {Q : Option PV → Hp → Prop} {ls : List (Option PV)} : WP d mX8_become 46 ls [] h Q = Q none h := R_vret dX8_become_46 rfl
