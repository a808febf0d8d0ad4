theorem dX2_init_0 : decode prog_4_method_1_code 0 = .ok (.aload_n 0, 1) := by decide +kernel
theorem dX2_init_1 : decode prog_4_method_1_code 1 = .ok (.invokespecial 1, 3) := by decide +kernel
theorem dX2_init_4 : decode prog_4_method_1_code 4 = .ok (.aload_n 0, 1) := by decide +kernel
theorem dX2_init_5 : decode prog_4_method_1_code 5 = .ok (.new 7, 3) := by decide +kernel
theorem dX2_init_8 : decode prog_4_method_1_code 8 = .ok (.dup, 1) := by decide +kernel
theorem dX2_init_9 : decode prog_4_method_1_code 9 = .ok (.invokespecial 9, 3) := by decide +kernel
theorem dX2_init_12 : decode prog_4_method_1_code 12 = .ok (.putfield 10, 3) := by decide +kernel
theorem dX2_init_15 : decode prog_4_method_1_code 15 = .ok (.aload_n 0, 1) := by decide +kernel
theorem dX2_init_16 : decode prog_4_method_1_code 16 = .ok (.new 16, 3) := by decide +kernel
theorem dX2_init_19 : decode prog_4_method_1_code 19 = .ok (.dup, 1) := by decide +kernel
theorem dX2_init_20 : decode prog_4_method_1_code 20 = .ok (.invokespecial 18, 3) := by decide +kernel
theorem dX2_init_23 : decode prog_4_method_1_code 23 = .ok (.putfield 19, 3) := by decide +kernel
theorem dX2_init_26 : decode prog_4_method_1_code 26 = .ok (.return_, 1) := by decide +kernel
theorem rX2_init_0 {d : Nat} {h : Hp} {Q : Option PV → Hp → Prop} {st : List PV}{t : List (Option PV)} {v : Nat} : WP d mX2_init 0 (some (.inr (.inr v)) :: t) st h Q = WP d mX2_init 1 (some (.inr (.inr v)) :: t) (.inr (.inr v) :: st) h Q := WP_step dX2_init_0 rfl rfl rfl
theorem rX2_init_1 {d : Nat} {h : Hp} {Q : Option PV → Hp → Prop} {ls : List (Option PV)}{a : Nat} : WP d mX2_init 1 ls (.inr (.inr a) :: []) h Q = (200 ≤ a ∧ WP d mX2_init 4 ls [] h Q) := R_obj (n := 1) (M' := mX0_init) dX2_init_1 rfl rfl
theorem rX2_init_4 {d : Nat} {h : Hp} {Q : Option PV → Hp → Prop} {st : List PV}{t : List (Option PV)} {v : Nat} : WP d mX2_init 4 (some (.inr (.inr v)) :: t) st h Q = WP d mX2_init 5 (some (.inr (.inr v)) :: t) (.inr (.inr v) :: st) h Q := WP_step dX2_init_4 rfl rfl rfl
theorem rX2_init_5 {d : Nat} {h : Hp} {Q : Option PV → Hp → Prop} {st : List PV}{ls : List (Option PV)} : WP d mX2_init 5 ls st h Q = WP d mX2_init 8 ls (.inr (.inr (200 + hN h)) :: st) (nw h 8 0 4) Q := R_new dX2_init_5 rfl
theorem rX2_init_8 {d : Nat} {h : Hp} {Q : Option PV → Hp → Prop} {st : List PV}{ls : List (Option PV)}{a : Nat} : WP d mX2_init 8 ls (.inr (.inr a) :: st) h Q = WP d mX2_init 9 ls (.inr (.inr a) :: .inr (.inr a) :: st) h Q := WP_step dX2_init_8 rfl rfl rfl
theorem rX2_init_9 {d : Nat} {h : Hp} {Q : Option PV → Hp → Prop} {ls : List (Option PV)}{r0 r1 : PV}{v0 : Nat} : WP (d + 1) mX2_init 9 ls (.inr (.inr v0) :: [r0, r1]) h Q = (200 ≤ v0 ∧ WP d mX8_init 0 [some (.inr (.inr v0))] [] h (fun r h' => WP (d + 1) mX2_init 12 ls (psh r [r0, r1]) h' Q)) := R_callI (st := .inr (.inr v0) :: [r0, r1]) (M := mX2_init) (pc := 9) (kd := 3) (n := 1) (M' := mX8_init) (as := [.inr (.inr v0)]) (rest := [r0, r1]) (en := [some (.inr (.inr v0))]) dX2_init_9 rfl (Or.inr rfl) (Nat.le_of_ble_eq_true rfl) rfl rfl (Nat.le_of_ble_eq_true rfl) rfl rfl rfl
theorem rX2_init_12 {d : Nat} {h : Hp} {Q : Option PV → Hp → Prop} {st : List PV}{ls : List (Option PV)}{a : Nat} {v : Nat} : WP d mX2_init 12 ls (.inr (.inr v) :: .inr (.inr a) :: st) h Q = ((hK h a).1 = 2 ∧ 200 ≤ a ∧ WP d mX2_init 15 ls st (wR h a 0 v) Q) := R_put2 dX2_init_12 rfl
theorem rX2_init_15 {d : Nat} {h : Hp} {Q : Option PV → Hp → Prop} {st : List PV}{t : List (Option PV)} {v : Nat} : WP d mX2_init 15 (some (.inr (.inr v)) :: t) st h Q = WP d mX2_init 16 (some (.inr (.inr v)) :: t) (.inr (.inr v) :: st) h Q := WP_step dX2_init_15 rfl rfl rfl
theorem rX2_init_16 {d : Nat} {h : Hp} {Q : Option PV → Hp → Prop} {st : List PV}{ls : List (Option PV)} : WP d mX2_init 16 ls st h Q = WP d mX2_init 19 ls (.inr (.inr (200 + hN h)) :: st) (nw h 5 0 13) Q := R_new dX2_init_16 rfl
theorem rX2_init_19 {d : Nat} {h : Hp} {Q : Option PV → Hp → Prop} {st : List PV}{ls : List (Option PV)}{a : Nat} : WP d mX2_init 19 ls (.inr (.inr a) :: st) h Q = WP d mX2_init 20 ls (.inr (.inr a) :: .inr (.inr a) :: st) h Q := WP_step dX2_init_19 rfl rfl rfl
theorem rX2_init_20 {d : Nat} {h : Hp} {Q : Option PV → Hp → Prop} {ls : List (Option PV)}{r0 r1 : PV}{v0 : Nat} : WP (d + 1) mX2_init 20 ls (.inr (.inr v0) :: [r0, r1]) h Q = (200 ≤ v0 ∧ WP d mX5_init 0 [some (.inr (.inr v0))] [] h (fun r h' => WP (d + 1) mX2_init 23 ls (psh r [r0, r1]) h' Q)) := R_callI (st := .inr (.inr v0) :: [r0, r1]) (M := mX2_init) (pc := 20) (kd := 3) (n := 1) (M' := mX5_init) (as := [.inr (.inr v0)]) (rest := [r0, r1]) (en := [some (.inr (.inr v0))]) dX2_init_20 rfl (Or.inr rfl) (Nat.le_of_ble_eq_true rfl) rfl rfl (Nat.le_of_ble_eq_true rfl) rfl rfl rfl
theorem rX2_init_23 {d : Nat} {h : Hp} {Q : Option PV → Hp → Prop} {st : List PV}{ls : List (Option PV)}{a : Nat} {v : Nat} : WP d mX2_init 23 ls (.inr (.inr v) :: .inr (.inr a) :: st) h Q = ((hK h a).1 = 2 ∧ 200 ≤ a ∧ WP d mX2_init 26 ls st (wR h a 1 v) Q) := R_put2 dX2_init_23 rfl
theorem rX2_init_26 {d : Nat} {h : Hp} {Q : Option PV → Hp → Prop} {ls : List (Option PV)} : WP d mX2_init 26 ls [] h Q = Q none h := R_vret dX2_init_26 rfl
