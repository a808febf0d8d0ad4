theorem dX5_init_0 : decode prog_7_method_1_code 0 = .ok (.aload_n 0, 1) := by decide +kernel
theorem dX5_init_1 : decode prog_7_method_1_code 1 = .ok (.invokespecial 3, 3) := by decide +kernel
theorem dX5_init_4 : decode prog_7_method_1_code 4 = .ok (.aload_n 0, 1) := by decide +kernel
theorem dX5_init_5 : decode prog_7_method_1_code 5 = .ok (.bipush 6, 2) := by decide +kernel
theorem dX5_init_7 : decode prog_7_method_1_code 7 = .ok (.newarray .int, 2) := by decide +kernel
theorem dX5_init_9 : decode prog_7_method_1_code 9 = .ok (.putfield 9, 3) := by decide +kernel
theorem dX5_init_12 : decode prog_7_method_1_code 12 = .ok (.aload_n 0, 1) := by decide +kernel
theorem dX5_init_13 : decode prog_7_method_1_code 13 = .ok (.bipush 6, 2) := by decide +kernel
theorem dX5_init_15 : decode prog_7_method_1_code 15 = .ok (.newarray .int, 2) := by decide +kernel
theorem dX5_init_17 : decode prog_7_method_1_code 17 = .ok (.putfield 15, 3) := by decide +kernel
theorem dX5_init_20 : decode prog_7_method_1_code 20 = .ok (.aload_n 0, 1) := by decide +kernel
theorem dX5_init_21 : decode prog_7_method_1_code 21 = .ok (.bipush 6, 2) := by decide +kernel
theorem dX5_init_23 : decode prog_7_method_1_code 23 = .ok (.newarray .int, 2) := by decide +kernel
theorem dX5_init_25 : decode prog_7_method_1_code 25 = .ok (.putfield 18, 3) := by decide +kernel
theorem dX5_init_28 : decode prog_7_method_1_code 28 = .ok (.aload_n 0, 1) := by decide +kernel
theorem dX5_init_29 : decode prog_7_method_1_code 29 = .ok (.bipush 6, 2) := by decide +kernel
theorem dX5_init_31 : decode prog_7_method_1_code 31 = .ok (.newarray .int, 2) := by decide +kernel
theorem dX5_init_33 : decode prog_7_method_1_code 33 = .ok (.putfield 21, 3) := by decide +kernel
theorem dX5_init_36 : decode prog_7_method_1_code 36 = .ok (.aload_n 0, 1) := by decide +kernel
theorem dX5_init_37 : decode prog_7_method_1_code 37 = .ok (.bipush 6, 2) := by decide +kernel
theorem dX5_init_39 : decode prog_7_method_1_code 39 = .ok (.newarray .int, 2) := by decide +kernel
theorem dX5_init_41 : decode prog_7_method_1_code 41 = .ok (.putfield 24, 3) := by decide +kernel
theorem dX5_init_44 : decode prog_7_method_1_code 44 = .ok (.aload_n 0, 1) := by decide +kernel
theorem dX5_init_45 : decode prog_7_method_1_code 45 = .ok (.bipush 6, 2) := by decide +kernel
theorem dX5_init_47 : decode prog_7_method_1_code 47 = .ok (.newarray .int, 2) := by decide +kernel
theorem dX5_init_49 : decode prog_7_method_1_code 49 = .ok (.putfield 27, 3) := by decide +kernel
theorem dX5_init_52 : decode prog_7_method_1_code 52 = .ok (.aload_n 0, 1) := by decide +kernel
theorem dX5_init_53 : decode prog_7_method_1_code 53 = .ok (.getstatic 30, 3) := by decide +kernel
theorem dX5_init_56 : decode prog_7_method_1_code 56 = .ok (.putfield 33, 3) := by decide +kernel
theorem dX5_init_59 : decode prog_7_method_1_code 59 = .ok (.aload_n 0, 1) := by decide +kernel
theorem dX5_init_60 : decode prog_7_method_1_code 60 = .ok (.getstatic 30, 3) := by decide +kernel
theorem dX5_init_63 : decode prog_7_method_1_code 63 = .ok (.putfield 36, 3) := by decide +kernel
theorem dX5_init_66 : decode prog_7_method_1_code 66 = .ok (.return_, 1) := by decide +kernel
theorem rX5_init_0 {d : Nat} {h : Hp} {Q : Option PV → Hp → Prop} {st : List PV}{t : List (Option PV)} {v : Nat} : WP d mX5_init 0 (some (.inr (.inr v)) :: t) st h Q = WP d mX5_init 1 (some (.inr (.inr v)) :: t) (.inr (.inr v) :: st) h Q := WP_step dX5_init_0 rfl rfl rfl
theorem rX5_init_1 {d : Nat} {h : Hp} {Q : Option PV → Hp → Prop} {ls : List (Option PV)}{a : Nat} : WP d mX5_init 1 ls (.inr (.inr a) :: []) h Q = (200 ≤ a ∧ WP d mX5_init 4 ls [] h Q) := R_obj (n := 1) (M' := mX0_init) dX5_init_1 rfl rfl
theorem rX5_init_4 {d : Nat} {h : Hp} {Q : Option PV → Hp → Prop} {st : List PV}{t : List (Option PV)} {v : Nat} : WP d mX5_init 4 (some (.inr (.inr v)) :: t) st h Q = WP d mX5_init 5 (some (.inr (.inr v)) :: t) (.inr (.inr v) :: st) h Q := WP_step dX5_init_4 rfl rfl rfl
theorem rX5_init_5 {d : Nat} {h : Hp} {Q : Option PV → Hp → Prop} {st : List PV}{ls : List (Option PV)} : WP d mX5_init 5 ls st h Q = WP d mX5_init 7 ls (.inl (6) :: st) h Q := WP_step dX5_init_5 rfl rfl rfl
theorem rX5_init_7 {d : Nat} {h : Hp} {Q : Option PV → Hp → Prop} {st : List PV}{ls : List (Option PV)}{z : Int} : WP d mX5_init 7 ls (.inl z :: st) h Q = ((0 ≤ z ∧ z ≤ 100000) ∧ WP d mX5_init 9 ls (.inr (.inr (200 + hN h)) :: st) (nw h 21 z.toNat z.toNat) Q) := R_nwa dX5_init_7 rfl (by decide)
theorem rX5_init_9 {d : Nat} {h : Hp} {Q : Option PV → Hp → Prop} {st : List PV}{ls : List (Option PV)}{a : Nat} {v : Nat} : WP d mX5_init 9 ls (.inr (.inr v) :: .inr (.inr a) :: st) h Q = ((hK h a).1 = 5 ∧ 200 ≤ a ∧ WP d mX5_init 12 ls st (wR h a 0 v) Q) := R_put2 dX5_init_9 rfl
theorem rX5_init_12 {d : Nat} {h : Hp} {Q : Option PV → Hp → Prop} {st : List PV}{t : List (Option PV)} {v : Nat} : WP d mX5_init 12 (some (.inr (.inr v)) :: t) st h Q = WP d mX5_init 13 (some (.inr (.inr v)) :: t) (.inr (.inr v) :: st) h Q := WP_step dX5_init_12 rfl rfl rfl
theorem rX5_init_13 {d : Nat} {h : Hp} {Q : Option PV → Hp → Prop} {st : List PV}{ls : List (Option PV)} : WP d mX5_init 13 ls st h Q = WP d mX5_init 15 ls (.inl (6) :: st) h Q := WP_step dX5_init_13 rfl rfl rfl
theorem rX5_init_15 {d : Nat} {h : Hp} {Q : Option PV → Hp → Prop} {st : List PV}{ls : List (Option PV)}{z : Int} : WP d mX5_init 15 ls (.inl z :: st) h Q = ((0 ≤ z ∧ z ≤ 100000) ∧ WP d mX5_init 17 ls (.inr (.inr (200 + hN h)) :: st) (nw h 21 z.toNat z.toNat) Q) := R_nwa dX5_init_15 rfl (by decide)
theorem rX5_init_17 {d : Nat} {h : Hp} {Q : Option PV → Hp → Prop} {st : List PV}{ls : List (Option PV)}{a : Nat} {v : Nat} : WP d mX5_init 17 ls (.inr (.inr v) :: .inr (.inr a) :: st) h Q = ((hK h a).1 = 5 ∧ 200 ≤ a ∧ WP d mX5_init 20 ls st (wR h a 1 v) Q) := R_put2 dX5_init_17 rfl
theorem rX5_init_20 {d : Nat} {h : Hp} {Q : Option PV → Hp → Prop} {st : List PV}{t : List (Option PV)} {v : Nat} : WP d mX5_init 20 (some (.inr (.inr v)) :: t) st h Q = WP d mX5_init 21 (some (.inr (.inr v)) :: t) (.inr (.inr v) :: st) h Q := WP_step dX5_init_20 rfl rfl rfl
theorem rX5_init_21 {d : Nat} {h : Hp} {Q : Option PV → Hp → Prop} {st : List PV}{ls : List (Option PV)} : WP d mX5_init 21 ls st h Q = WP d mX5_init 23 ls (.inl (6) :: st) h Q := WP_step dX5_init_21 rfl rfl rfl
theorem rX5_init_23 {d : Nat} {h : Hp} {Q : Option PV → Hp → Prop} {st : List PV}{ls : List (Option PV)}{z : Int} : WP d mX5_init 23 ls (.inl z :: st) h Q = ((0 ≤ z ∧ z ≤ 100000) ∧ WP d mX5_init 25 ls (.inr (.inr (200 + hN h)) :: st) (nw h 21 z.toNat z.toNat) Q) := R_nwa dX5_init_23 rfl (by decide)
theorem rX5_init_25 {d : Nat} {h : Hp} {Q : Option PV → Hp → Prop} {st : List PV}{ls : List (Option PV)}{a : Nat} {v : Nat} : WP d mX5_init 25 ls (.inr (.inr v) :: .inr (.inr a) :: st) h Q = ((hK h a).1 = 5 ∧ 200 ≤ a ∧ WP d mX5_init 28 ls st (wR h a 2 v) Q) := R_put2 dX5_init_25 rfl
theorem rX5_init_28 {d : Nat} {h : Hp} {Q : Option PV → Hp → Prop} {st : List PV}{t : List (Option PV)} {v : Nat} : WP d mX5_init 28 (some (.inr (.inr v)) :: t) st h Q = WP d mX5_init 29 (some (.inr (.inr v)) :: t) (.inr (.inr v) :: st) h Q := WP_step dX5_init_28 rfl rfl rfl
theorem rX5_init_29 {d : Nat} {h : Hp} {Q : Option PV → Hp → Prop} {st : List PV}{ls : List (Option PV)} : WP d mX5_init 29 ls st h Q = WP d mX5_init 31 ls (.inl (6) :: st) h Q := WP_step dX5_init_29 rfl rfl rfl
theorem rX5_init_31 {d : Nat} {h : Hp} {Q : Option PV → Hp → Prop} {st : List PV}{ls : List (Option PV)}{z : Int} : WP d mX5_init 31 ls (.inl z :: st) h Q = ((0 ≤ z ∧ z ≤ 100000) ∧ WP d mX5_init 33 ls (.inr (.inr (200 + hN h)) :: st) (nw h 21 z.toNat z.toNat) Q) := R_nwa dX5_init_31 rfl (by decide)
theorem rX5_init_33 {d : Nat} {h : Hp} {Q : Option PV → Hp → Prop} {st : List PV}{ls : List (Option PV)}{a : Nat} {v : Nat} : WP d mX5_init 33 ls (.inr (.inr v) :: .inr (.inr a) :: st) h Q = ((hK h a).1 = 5 ∧ 200 ≤ a ∧ WP d mX5_init 36 ls st (wR h a 3 v) Q) := R_put2 dX5_init_33 rfl
theorem rX5_init_36 {d : Nat} {h : Hp} {Q : Option PV → Hp → Prop} {st : List PV}{t : List (Option PV)} {v : Nat} : WP d mX5_init 36 (some (.inr (.inr v)) :: t) st h Q = WP d mX5_init 37 (some (.inr (.inr v)) :: t) (.inr (.inr v) :: st) h Q := WP_step dX5_init_36 rfl rfl rfl
theorem rX5_init_37 {d : Nat} {h : Hp} {Q : Option PV → Hp → Prop} {st : List PV}{ls : List (Option PV)} : WP d mX5_init 37 ls st h Q = WP d mX5_init 39 ls (.inl (6) :: st) h Q := WP_step dX5_init_37 rfl rfl rfl
theorem rX5_init_39 {d : Nat} {h : Hp} {Q : Option PV → Hp → Prop} {st : List PV}{ls : List (Option PV)}{z : Int} : WP d mX5_init 39 ls (.inl z :: st) h Q = ((0 ≤ z ∧ z ≤ 100000) ∧ WP d mX5_init 41 ls (.inr (.inr (200 + hN h)) :: st) (nw h 21 z.toNat z.toNat) Q) := R_nwa dX5_init_39 rfl (by decide)
theorem rX5_init_41 {d : Nat} {h : Hp} {Q : Option PV → Hp → Prop} {st : List PV}{ls : List (Option PV)}{a : Nat} {v : Nat} : WP d mX5_init 41 ls (.inr (.inr v) :: .inr (.inr a) :: st) h Q = ((hK h a).1 = 5 ∧ 200 ≤ a ∧ WP d mX5_init 44 ls st (wR h a 4 v) Q) := R_put2 dX5_init_41 rfl
theorem rX5_init_44 {d : Nat} {h : Hp} {Q : Option PV → Hp → Prop} {st : List PV}{t : List (Option PV)} {v : Nat} : WP d mX5_init 44 (some (.inr (.inr v)) :: t) st h Q = WP d mX5_init 45 (some (.inr (.inr v)) :: t) (.inr (.inr v) :: st) h Q := WP_step dX5_init_44 rfl rfl rfl
theorem rX5_init_45 {d : Nat} {h : Hp} {Q : Option PV → Hp → Prop} {st : List PV}{ls : List (Option PV)} : WP d mX5_init 45 ls st h Q = WP d mX5_init 47 ls (.inl (6) :: st) h Q := WP_step dX5_init_45 rfl rfl rfl
theorem rX5_init_47 {d : Nat} {h : Hp} {Q : Option PV → Hp → Prop} {st : List PV}{ls : List (Option PV)}{z : Int} : WP d mX5_init 47 ls (.inl z :: st) h Q = ((0 ≤ z ∧ z ≤ 100000) ∧ WP d mX5_init 49 ls (.inr (.inr (200 + hN h)) :: st) (nw h 21 z.toNat z.toNat) Q) := R_nwa dX5_init_47 rfl (by decide)
theorem rX5_init_49 {d : Nat} {h : Hp} {Q : Option PV → Hp → Prop} {st : List PV}{ls : List (Option PV)}{a : Nat} {v : Nat} : WP d mX5_init 49 ls (.inr (.inr v) :: .inr (.inr a) :: st) h Q = ((hK h a).1 = 5 ∧ 200 ≤ a ∧ WP d mX5_init 52 ls st (wR h a 5 v) Q) := R_put2 dX5_init_49 rfl
theorem rX5_init_52 {d : Nat} {h : Hp} {Q : Option PV → Hp → Prop} {st : List PV}{t : List (Option PV)} {v : Nat} : WP d mX5_init 52 (some (.inr (.inr v)) :: t) st h Q = WP d mX5_init 53 (some (.inr (.inr v)) :: t) (.inr (.inr v) :: st) h Q := WP_step dX5_init_52 rfl rfl rfl
theorem rX5_init_53 {d : Nat} {h : Hp} {Q : Option PV → Hp → Prop} {st : List PV}{ls : List (Option PV)} : WP d mX5_init 53 ls st h Q = WP d mX5_init 56 ls (.inr (.inr 90) :: st) h Q := WP_step dX5_init_53 rfl rfl rfl
theorem rX5_init_56 {d : Nat} {h : Hp} {Q : Option PV → Hp → Prop} {st : List PV}{ls : List (Option PV)}{a : Nat} {v : Nat} : WP d mX5_init 56 ls (.inr (.inr v) :: .inr (.inr a) :: st) h Q = ((hK h a).1 = 5 ∧ 200 ≤ a ∧ WP d mX5_init 59 ls st (wR h a 6 v) Q) := R_put2 dX5_init_56 rfl
theorem rX5_init_59 {d : Nat} {h : Hp} {Q : Option PV → Hp → Prop} {st : List PV}{t : List (Option PV)} {v : Nat} : WP d mX5_init 59 (some (.inr (.inr v)) :: t) st h Q = WP d mX5_init 60 (some (.inr (.inr v)) :: t) (.inr (.inr v) :: st) h Q := WP_step dX5_init_59 rfl rfl rfl
theorem rX5_init_60 {d : Nat} {h : Hp} {Q : Option PV → Hp → Prop} {st : List PV}{ls : List (Option PV)} : WP d mX5_init 60 ls st h Q = WP d mX5_init 63 ls (.inr (.inr 90) :: st) h Q := WP_step dX5_init_60 rfl rfl rfl
theorem rX5_init_63 {d : Nat} {h : Hp} {Q : Option PV → Hp → Prop} {st : List PV}{ls : List (Option PV)}{a : Nat} {v : Nat} : WP d mX5_init 63 ls (.inr (.inr v) :: .inr (.inr a) :: st) h Q = ((hK h a).1 = 5 ∧ 200 ≤ a ∧ WP d mX5_init 66 ls st (wR h a 7 v) Q) := R_put2 dX5_init_63 rfl
theorem rX5_init_66 {d : Nat} {h : Hp} {Q : Option PV → Hp → Prop} {ls : List (Option PV)} : WP d mX5_init 66 ls [] h Q = Q none h := R_vret dX5_init_66 rfl
theorem dX5_allOdds_0 : decode prog_7_method_2_code 0 = .ok (.iconst 0, 1) := by decide +kernel
theorem dX5_allOdds_1 : decode prog_7_method_2_code 1 = .ok (.istore_n 1, 1) := by decide +kernel
theorem dX5_allOdds_2 : decode prog_7_method_2_code 2 = .ok (.iconst 0, 1) := by decide +kernel
theorem dX5_allOdds_3 : decode prog_7_method_2_code 3 = .ok (.istore_n 2, 1) := by decide +kernel
theorem dX5_allOdds_4 : decode prog_7_method_2_code 4 = .ok (.iload_n 2, 1) := by decide +kernel
theorem dX5_allOdds_5 : decode prog_7_method_2_code 5 = .ok (.aload_n 0, 1) := by decide +kernel
theorem dX5_allOdds_6 : decode prog_7_method_2_code 6 = .ok (.getfield 39, 3) := by decide +kernel
theorem dX5_allOdds_9 : decode prog_7_method_2_code 9 = .ok (.if_icmp .ge 18, 3) := by decide +kernel
theorem dX5_allOdds_12 : decode prog_7_method_2_code 12 = .ok (.iload_n 1, 1) := by decide +kernel
theorem dX5_allOdds_13 : decode prog_7_method_2_code 13 = .ok (.aload_n 0, 1) := by decide +kernel
theorem dX5_allOdds_14 : decode prog_7_method_2_code 14 = .ok (.getfield 27, 3) := by decide +kernel
theorem dX5_allOdds_17 : decode prog_7_method_2_code 17 = .ok (.iload_n 2, 1) := by decide +kernel
theorem dX5_allOdds_18 : decode prog_7_method_2_code 18 = .ok (.iaload, 1) := by decide +kernel
theorem dX5_allOdds_19 : decode prog_7_method_2_code 19 = .ok (.iadd, 1) := by decide +kernel
theorem dX5_allOdds_20 : decode prog_7_method_2_code 20 = .ok (.istore_n 1, 1) := by decide +kernel
theorem dX5_allOdds_21 : decode prog_7_method_2_code 21 = .ok (.iinc 2 1, 3) := by decide +kernel
theorem dX5_allOdds_24 : decode prog_7_method_2_code 24 = .ok (.goto (-20), 3) := by decide +kernel
theorem dX5_allOdds_27 : decode prog_7_method_2_code 27 = .ok (.iload_n 1, 1) := by decide +kernel
theorem dX5_allOdds_28 : decode prog_7_method_2_code 28 = .ok (.ireturn, 1) := by decide +kernel
theorem rX5_allOdds_0 {d : Nat} {h : Hp} {Q : Option PV → Hp → Prop} {st : List PV}{ls : List (Option PV)} : WP d mX5_allOdds 0 ls st h Q = WP d mX5_allOdds 1 ls (.inl (0) :: st) h Q := WP_step dX5_allOdds_0 rfl rfl rfl
theorem rX5_allOdds_1 {d : Nat} {h : Hp} {Q : Option PV → Hp → Prop} {st : List PV}{x0 x1 x2 : Option PV} {v : Int} : WP d mX5_allOdds 1 [x0, x1, x2] (.inl v :: st) h Q = WP d mX5_allOdds 2 [x0, some (.inl v), x2] st h Q := WP_step dX5_allOdds_1 rfl rfl rfl
theorem rX5_allOdds_2 {d : Nat} {h : Hp} {Q : Option PV → Hp → Prop} {st : List PV}{ls : List (Option PV)} : WP d mX5_allOdds 2 ls st h Q = WP d mX5_allOdds 3 ls (.inl (0) :: st) h Q := WP_step dX5_allOdds_2 rfl rfl rfl
theorem rX5_allOdds_3 {d : Nat} {h : Hp} {Q : Option PV → Hp → Prop} {st : List PV}{x0 x1 x2 : Option PV} {v : Int} : WP d mX5_allOdds 3 [x0, x1, x2] (.inl v :: st) h Q = WP d mX5_allOdds 4 [x0, x1, some (.inl v)] st h Q := WP_step dX5_allOdds_3 rfl rfl rfl
theorem rX5_allOdds_4 {d : Nat} {h : Hp} {Q : Option PV → Hp → Prop} {st : List PV}{x0 x1 : Option PV} {t : List (Option PV)} {v : Int} : WP d mX5_allOdds 4 (x0 :: x1 :: some (.inl v) :: t) st h Q = WP d mX5_allOdds 5 (x0 :: x1 :: some (.inl v) :: t) (.inl v :: st) h Q := WP_step dX5_allOdds_4 rfl rfl rfl
theorem rX5_allOdds_5 {d : Nat} {h : Hp} {Q : Option PV → Hp → Prop} {st : List PV}{t : List (Option PV)} {v : Nat} : WP d mX5_allOdds 5 (some (.inr (.inr v)) :: t) st h Q = WP d mX5_allOdds 6 (some (.inr (.inr v)) :: t) (.inr (.inr v) :: st) h Q := WP_step dX5_allOdds_5 rfl rfl rfl
theorem rX5_allOdds_6 {d : Nat} {h : Hp} {Q : Option PV → Hp → Prop} {st : List PV}{ls : List (Option PV)}{a : Nat} : WP d mX5_allOdds 6 ls (.inr (.inr a) :: st) h Q = ((hK h a).1 = 5 ∧ WP d mX5_allOdds 9 ls (.inl (hI h a 11) :: st) h Q) := R_get0 dX5_allOdds_6 rfl
theorem rX5_allOdds_9 {d : Nat} {h : Hp} {Q : Option PV → Hp → Prop} {st : List PV}{ls : List (Option PV)}{a b : Int} : WP d mX5_allOdds 9 ls (.inl b :: .inl a :: st) h Q = (if a < b then WP d mX5_allOdds 12 ls st h Q else WP d mX5_allOdds 27 ls st h Q) := R_icmp_ge dX5_allOdds_9 (by decide)
theorem rX5_allOdds_12 {d : Nat} {h : Hp} {Q : Option PV → Hp → Prop} {st : List PV}{x0 : Option PV} {t : List (Option PV)} {v : Int} : WP d mX5_allOdds 12 (x0 :: some (.inl v) :: t) st h Q = WP d mX5_allOdds 13 (x0 :: some (.inl v) :: t) (.inl v :: st) h Q := WP_step dX5_allOdds_12 rfl rfl rfl
theorem rX5_allOdds_13 {d : Nat} {h : Hp} {Q : Option PV → Hp → Prop} {st : List PV}{t : List (Option PV)} {v : Nat} : WP d mX5_allOdds 13 (some (.inr (.inr v)) :: t) st h Q = WP d mX5_allOdds 14 (some (.inr (.inr v)) :: t) (.inr (.inr v) :: st) h Q := WP_step dX5_allOdds_13 rfl rfl rfl
theorem rX5_allOdds_14 {d : Nat} {h : Hp} {Q : Option PV → Hp → Prop} {st : List PV}{ls : List (Option PV)}{a : Nat} : WP d mX5_allOdds 14 ls (.inr (.inr a) :: st) h Q = ((hK h a).1 = 5 ∧ WP d mX5_allOdds 17 ls (.inr (.inr (hR h a 5)) :: st) h Q) := R_get2 dX5_allOdds_14 rfl
theorem rX5_allOdds_17 {d : Nat} {h : Hp} {Q : Option PV → Hp → Prop} {st : List PV}{x0 x1 : Option PV} {t : List (Option PV)} {v : Int} : WP d mX5_allOdds 17 (x0 :: x1 :: some (.inl v) :: t) st h Q = WP d mX5_allOdds 18 (x0 :: x1 :: some (.inl v) :: t) (.inl v :: st) h Q := WP_step dX5_allOdds_17 rfl rfl rfl
theorem rX5_allOdds_18 {d : Nat} {h : Hp} {Q : Option PV → Hp → Prop} {st : List PV}{ls : List (Option PV)}{a : Nat} {z : Int} : WP d mX5_allOdds 18 ls (.inl z :: .inr (.inr a) :: st) h Q = ((hK h a).1 = 21 ∧ 0 ≤ z ∧ z < (hK h a).2 ∧ WP d mX5_allOdds 19 ls (.inl (hI h a z.toNat) :: st) h Q) := R_iald dX5_allOdds_18
theorem rX5_allOdds_19 {d : Nat} {h : Hp} {Q : Option PV → Hp → Prop} {st : List PV}{ls : List (Option PV)}{a b : Int} : WP d mX5_allOdds 19 ls (.inl b :: .inl a :: st) h Q = WP d mX5_allOdds 20 ls (.inl (w32 (a + b)) :: st) h Q := WP_step dX5_allOdds_19 rfl rfl rfl
theorem rX5_allOdds_20 {d : Nat} {h : Hp} {Q : Option PV → Hp → Prop} {st : List PV}{x0 x1 x2 : Option PV} {v : Int} : WP d mX5_allOdds 20 [x0, x1, x2] (.inl v :: st) h Q = WP d mX5_allOdds 21 [x0, some (.inl v), x2] st h Q := WP_step dX5_allOdds_20 rfl rfl rfl
theorem rX5_allOdds_21 {d : Nat} {h : Hp} {Q : Option PV → Hp → Prop} {st : List PV}{x0 x1 : Option PV} {t : List (Option PV)} {v : Int} : WP d mX5_allOdds 21 (x0 :: x1 :: some (.inl v) :: t) st h Q = WP d mX5_allOdds 24 (x0 :: x1 :: some (.inl (w32 (v + 1))) :: t) st h Q := WP_step dX5_allOdds_21 rfl rfl rfl
theorem rX5_allOdds_24 {d : Nat} {h : Hp} {Q : Option PV → Hp → Prop} {st : List PV}{ls : List (Option PV)} : WP d mX5_allOdds 24 ls st h Q = WP d mX5_allOdds 4 ls st h Q := R_goto dX5_allOdds_24 (by decide)
theorem rX5_allOdds_27 {d : Nat} {h : Hp} {Q : Option PV → Hp → Prop} {st : List PV}{x0 : Option PV} {t : List (Option PV)} {v : Int} : WP d mX5_allOdds 27 (x0 :: some (.inl v) :: t) st h Q = WP d mX5_allOdds 28 (x0 :: some (.inl v) :: t) (.inl v :: st) h Q := WP_step dX5_allOdds_27 rfl rfl rfl
theorem rX5_allOdds_28 {d : Nat} {h : Hp} {Q : Option PV → Hp → Prop} {ls : List (Option PV)}{z : Int} : WP d mX5_allOdds 28 ls [.inl z] h Q = Q (some (.inl z)) h := R_iret dX5_allOdds_28 rfl
theorem dX5_greatestDepth_0 : decode prog_7_method_3_code 0 = .ok (.iconst (-1), 1) := by decide +kernel
theorem dX5_greatestDepth_1 : decode prog_7_method_3_code 1 = .ok (.istore_n 1, 1) := by decide +kernel
theorem dX5_greatestDepth_2 : decode prog_7_method_3_code 2 = .ok (.iconst 0, 1) := by decide +kernel
theorem dX5_greatestDepth_3 : decode prog_7_method_3_code 3 = .ok (.istore_n 2, 1) := by decide +kernel
theorem dX5_greatestDepth_4 : decode prog_7_method_3_code 4 = .ok (.iload_n 2, 1) := by decide +kernel
theorem dX5_greatestDepth_5 : decode prog_7_method_3_code 5 = .ok (.aload_n 0, 1) := by decide +kernel
theorem dX5_greatestDepth_6 : decode prog_7_method_3_code 6 = .ok (.getfield 43, 3) := by decide +kernel
theorem dX5_greatestDepth_9 : decode prog_7_method_3_code 9 = .ok (.if_icmp .ge 20, 3) := by decide +kernel
theorem dX5_greatestDepth_12 : decode prog_7_method_3_code 12 = .ok (.iload_n 1, 1) := by decide +kernel
theorem dX5_greatestDepth_13 : decode prog_7_method_3_code 13 = .ok (.aload_n 0, 1) := by decide +kernel
theorem dX5_greatestDepth_14 : decode prog_7_method_3_code 14 = .ok (.getfield 9, 3) := by decide +kernel
theorem dX5_greatestDepth_17 : decode prog_7_method_3_code 17 = .ok (.iload_n 2, 1) := by decide +kernel
theorem dX5_greatestDepth_18 : decode prog_7_method_3_code 18 = .ok (.iaload, 1) := by decide +kernel
theorem dX5_greatestDepth_19 : decode prog_7_method_3_code 19 = .ok (.invokestatic 46, 3) := by decide +kernel
theorem dX5_greatestDepth_22 : decode prog_7_method_3_code 22 = .ok (.istore_n 1, 1) := by decide +kernel
theorem dX5_greatestDepth_23 : decode prog_7_method_3_code 23 = .ok (.iinc 2 1, 3) := by decide +kernel
theorem dX5_greatestDepth_26 : decode prog_7_method_3_code 26 = .ok (.goto (-22), 3) := by decide +kernel
theorem dX5_greatestDepth_29 : decode prog_7_method_3_code 29 = .ok (.iload_n 1, 1) := by decide +kernel
theorem dX5_greatestDepth_30 : decode prog_7_method_3_code 30 = .ok (.ireturn, 1) := by decide +kernel
theorem rX5_greatestDepth_0 {d : Nat} {h : Hp} {Q : Option PV → Hp → Prop} {st : List PV}{ls : List (Option PV)} : WP d mX5_greatestDepth 0 ls st h Q = WP d mX5_greatestDepth 1 ls (.inl (-1) :: st) h Q := WP_step dX5_greatestDepth_0 rfl rfl rfl
theorem rX5_greatestDepth_1 {d : Nat} {h : Hp} {Q : Option PV → Hp → Prop} {st : List PV}{x0 x1 x2 : Option PV} {v : Int} : WP d mX5_greatestDepth 1 [x0, x1, x2] (.inl v :: st) h Q = WP d mX5_greatestDepth 2 [x0, some (.inl v), x2] st h Q := WP_step dX5_greatestDepth_1 rfl rfl rfl
theorem rX5_greatestDepth_2 {d : Nat} {h : Hp} {Q : Option PV → Hp → Prop} {st : List PV}{ls : List (Option PV)} : WP d mX5_greatestDepth 2 ls st h Q = WP d mX5_greatestDepth 3 ls (.inl (0) :: st) h Q := WP_step dX5_greatestDepth_2 rfl rfl rfl
theorem rX5_greatestDepth_3 {d : Nat} {h : Hp} {Q : Option PV → Hp → Prop} {st : List PV}{x0 x1 x2 : Option PV} {v : Int} : WP d mX5_greatestDepth 3 [x0, x1, x2] (.inl v :: st) h Q = WP d mX5_greatestDepth 4 [x0, x1, some (.inl v)] st h Q := WP_step dX5_greatestDepth_3 rfl rfl rfl
theorem rX5_greatestDepth_4 {d : Nat} {h : Hp} {Q : Option PV → Hp → Prop} {st : List PV}{x0 x1 : Option PV} {t : List (Option PV)} {v : Int} : WP d mX5_greatestDepth 4 (x0 :: x1 :: some (.inl v) :: t) st h Q = WP d mX5_greatestDepth 5 (x0 :: x1 :: some (.inl v) :: t) (.inl v :: st) h Q := WP_step dX5_greatestDepth_4 rfl rfl rfl
theorem rX5_greatestDepth_5 {d : Nat} {h : Hp} {Q : Option PV → Hp → Prop} {st : List PV}{t : List (Option PV)} {v : Nat} : WP d mX5_greatestDepth 5 (some (.inr (.inr v)) :: t) st h Q = WP d mX5_greatestDepth 6 (some (.inr (.inr v)) :: t) (.inr (.inr v) :: st) h Q := WP_step dX5_greatestDepth_5 rfl rfl rfl
theorem rX5_greatestDepth_6 {d : Nat} {h : Hp} {Q : Option PV → Hp → Prop} {st : List PV}{ls : List (Option PV)}{a : Nat} : WP d mX5_greatestDepth 6 ls (.inr (.inr a) :: st) h Q = ((hK h a).1 = 5 ∧ WP d mX5_greatestDepth 9 ls (.inl (hI h a 10) :: st) h Q) := R_get0 dX5_greatestDepth_6 rfl
theorem rX5_greatestDepth_9 {d : Nat} {h : Hp} {Q : Option PV → Hp → Prop} {st : List PV}{ls : List (Option PV)}{a b : Int} : WP d mX5_greatestDepth 9 ls (.inl b :: .inl a :: st) h Q = (if a < b then WP d mX5_greatestDepth 12 ls st h Q else WP d mX5_greatestDepth 29 ls st h Q) := R_icmp_ge dX5_greatestDepth_9 (by decide)
theorem rX5_greatestDepth_12 {d : Nat} {h : Hp} {Q : Option PV → Hp → Prop} {st : List PV}{x0 : Option PV} {t : List (Option PV)} {v : Int} : WP d mX5_greatestDepth 12 (x0 :: some (.inl v) :: t) st h Q = WP d mX5_greatestDepth 13 (x0 :: some (.inl v) :: t) (.inl v :: st) h Q := WP_step dX5_greatestDepth_12 rfl rfl rfl
theorem rX5_greatestDepth_13 {d : Nat} {h : Hp} {Q : Option PV → Hp → Prop} {st : List PV}{t : List (Option PV)} {v : Nat} : WP d mX5_greatestDepth 13 (some (.inr (.inr v)) :: t) st h Q = WP d mX5_greatestDepth 14 (some (.inr (.inr v)) :: t) (.inr (.inr v) :: st) h Q := WP_step dX5_greatestDepth_13 rfl rfl rfl
theorem rX5_greatestDepth_14 {d : Nat} {h : Hp} {Q : Option PV → Hp → Prop} {st : List PV}{ls : List (Option PV)}{a : Nat} : WP d mX5_greatestDepth 14 ls (.inr (.inr a) :: st) h Q = ((hK h a).1 = 5 ∧ WP d mX5_greatestDepth 17 ls (.inr (.inr (hR h a 0)) :: st) h Q) := R_get2 dX5_greatestDepth_14 rfl
theorem rX5_greatestDepth_17 {d : Nat} {h : Hp} {Q : Option PV → Hp → Prop} {st : List PV}{x0 x1 : Option PV} {t : List (Option PV)} {v : Int} : WP d mX5_greatestDepth 17 (x0 :: x1 :: some (.inl v) :: t) st h Q = WP d mX5_greatestDepth 18 (x0 :: x1 :: some (.inl v) :: t) (.inl v :: st) h Q := WP_step dX5_greatestDepth_17 rfl rfl rfl
theorem rX5_greatestDepth_18 {d : Nat} {h : Hp} {Q : Option PV → Hp → Prop} {st : List PV}{ls : List (Option PV)}{a : Nat} {z : Int} : WP d mX5_greatestDepth 18 ls (.inl z :: .inr (.inr a) :: st) h Q = ((hK h a).1 = 21 ∧ 0 ≤ z ∧ z < (hK h a).2 ∧ WP d mX5_greatestDepth 19 ls (.inl (hI h a z.toNat) :: st) h Q) := R_iald dX5_greatestDepth_18
theorem rX5_greatestDepth_19 {d : Nat} {h : Hp} {Q : Option PV → Hp → Prop} {ls : List (Option PV)}{v0 : Int} {v1 : Int} : WP (d + 1) mX5_greatestDepth 19 ls (.inl v1 :: .inl v0 :: []) h Q = WP d mJ9_max_7cf53 0 [some (.inl v0), some (.inl v1)] [] h (fun r h' => WP (d + 1) mX5_greatestDepth 22 ls (psh r []) h' Q) := R_callS (st := .inl v1 :: .inl v0 :: []) (M := mX5_greatestDepth) (pc := 19) (kd := 4) (n := 2) (M' := mJ9_max_7cf53) (as := [.inl v1, .inl v0]) (rest := []) (en := [some (.inl v0), some (.inl v1)]) dX5_greatestDepth_19 rfl (Or.inl rfl) (Nat.le_of_ble_eq_true rfl) rfl (Nat.le_of_ble_eq_true rfl) rfl rfl rfl
theorem rX5_greatestDepth_22 {d : Nat} {h : Hp} {Q : Option PV → Hp → Prop} {st : List PV}{x0 x1 x2 : Option PV} {v : Int} : WP d mX5_greatestDepth 22 [x0, x1, x2] (.inl v :: st) h Q = WP d mX5_greatestDepth 23 [x0, some (.inl v), x2] st h Q := WP_step dX5_greatestDepth_22 rfl rfl rfl
theorem rX5_greatestDepth_23 {d : Nat} {h : Hp} {Q : Option PV → Hp → Prop} {st : List PV}{x0 x1 : Option PV} {t : List (Option PV)} {v : Int} : WP d mX5_greatestDepth 23 (x0 :: x1 :: some (.inl v) :: t) st h Q = WP d mX5_greatestDepth 26 (x0 :: x1 :: some (.inl (w32 (v + 1))) :: t) st h Q := WP_step dX5_greatestDepth_23 rfl rfl rfl
theorem rX5_greatestDepth_26 {d : Nat} {h : Hp} {Q : Option PV → Hp → Prop} {st : List PV}{ls : List (Option PV)} : WP d mX5_greatestDepth 26 ls st h Q = WP d mX5_greatestDepth 4 ls st h Q := R_goto dX5_greatestDepth_26 (by decide)
theorem rX5_greatestDepth_29 {d : Nat} {h : Hp} {Q : Option PV → Hp → Prop} {st : List PV}{x0 : Option PV} {t : List (Option PV)} {v : Int} : WP d mX5_greatestDepth 29 (x0 :: some (.inl v) :: t) st h Q = WP d mX5_greatestDepth 30 (x0 :: some (.inl v) :: t) (.inl v :: st) h Q := WP_step dX5_greatestDepth_29 rfl rfl rfl
theorem rX5_greatestDepth_30 {d : Nat} {h : Hp} {Q : Option PV → Hp → Prop} {ls : List (Option PV)}{z : Int} : WP d mX5_greatestDepth 30 ls [.inl z] h Q = Q (some (.inl z)) h := R_iret dX5_greatestDepth_30 rfl
