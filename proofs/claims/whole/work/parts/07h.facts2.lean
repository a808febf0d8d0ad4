/-- what the words say of a method -/
def MF (M : Me) : Prop := Cond.code M.2.1 M.2.2.1 M.2.2.2.1 M.2.2.2.2 ∈ TG ∧ Cond.initialized M.2.1.cls ∈ TG ∧ plainFor M.2.1 = true ∧ (M.2.1.cls ≠ "java/lang/invoke/MethodHandle" ∧ M.2.1.cls ≠ "java/lang/invoke/VarHandle") ∧ M.2.2.2.1 ≤ 40 ∧ cn M.1 = M.2.1.cls ∧ (100 ≤ M.1 → M.2.1.name = "<init>")
def prm (M : Me) : Option Nat := (parseMethodDescriptor M.2.1.desc).map fun d => d.parameters.length
/-- what they say of a call -/
def CF (own idx kd n : Nat) (M : Me) : Prop :=
  (kd = 8 ∧ Cond.methodLink (cn own) idx objectInit ∈ TG) ∨ (kd = 9 ∧ Cond.methodLink (cn own) idx arraycopyName ∈ TG) ∨
  (MF M ∧ ((kd = 0 ∧ Cond.methodLink (cn own) idx M.2.1 ∈ TG ∧ Cond.instanceMethod M.2.1 ∈ TG ∧ Cond.selects M.2.1.cls M.2.1 M.2.1 ∈ TG ∧ prm M = some (n - 1) ∧ (M.1 < 13 ∨ M.1 = 14)) ∨
    (kd = 1 ∧ (∃ host, Cond.methodLinkNest (cn own) idx M.2.1 host ∈ NW) ∧ Cond.instanceMethod M.2.1 ∈ TG ∧ Cond.selects M.2.1.cls M.2.1 M.2.1 ∈ TG ∧ prm M = some (n - 1) ∧ (M.1 < 13 ∨ M.1 = 14)) ∨
    (kd = 2 ∧ Cond.methodLink (cn own) idx M.2.1 ∈ TG ∧ Cond.instanceMethod M.2.1 ∈ TG ∧ M.2.1.name = "<init>" ∧ M.2.2.2.2 = none ∧ prm M = some (n - 1)) ∨
    (kd = 3 ∧ (∃ host, Cond.methodLinkNest (cn own) idx M.2.1 host ∈ NW) ∧ Cond.instanceMethod M.2.1 ∈ TG ∧ M.2.1.name = "<init>" ∧ M.2.2.2.2 = none ∧ prm M = some (n - 1)) ∨
    (kd = 4 ∧ Cond.methodLink (cn own) idx M.2.1 ∈ TG ∧ Cond.static M.2.1 ∈ TG ∧ prm M = some n) ∨
    (kd = 5 ∧ (∃ host, Cond.methodLinkNest (cn own) idx M.2.1 host ∈ NW) ∧ Cond.static M.2.1 ∈ TG ∧ prm M = some n)))
/-- of a constant -/
def KF (own idx : Nat) (v : PV) : Prop := (∃ z, v = .inl z ∧ in32 z ∧ Cond.constant (cn own) idx (Int32.ofInt z) ∈ TG) ∨ (∃ z, v = .inr (.inl z) ∧ in64 z ∧ Cond.constantLong (cn own) idx (Int64.ofInt z) ∈ TG) ∨ ∃ (j : Nat) (tx : String), v = .inr (.inr (1 + j)) ∧ j < 26 ∧ (own, idx, tx, j) ∈ strT
/-- of a static -/
def SF (own idx : Nat) (v : PV) : Prop := (v = .inr (.inr 90) ∧ ∃ host, Cond.fieldLinkNest (cn own) idx RX11 "NO_LAW" "[I" host ∈ NW) ∨ (v = .inl 1 ∧ Cond.fieldLink (cn own) idx RJ0 "COMPACT_STRINGS" "Z" ∈ TG) ∨ (v = .inr (.inr 95) ∧ Cond.fieldLink (cn own) idx RJ3 "SIOOBE_FORMATTER" "Ljava/util/function/BiFunction;" ∈ TG)
def CFe (own : Nat) (q : Nat × Nat × Nat × Me) : Prop := CF own q.1 q.2.1 q.2.2.1 q.2.2.2
def KFe (own : Nat) (q : Nat × PV) : Prop := KF own q.1 q.2
def SFe (own : Nat) (q : Nat × PV) : Prop := SF own q.1 q.2
theorem pn0 : plainName RX0 = true := by decide +kernel
theorem pn1 : plainName RX1 = true := by decide +kernel
theorem pn2 : plainName RX2 = true := by decide +kernel
theorem pn3 : plainName RX3 = true := by decide +kernel
theorem pn4 : plainName RX4 = true := by decide +kernel
theorem pn5 : plainName RX5 = true := by decide +kernel
theorem pn6 : plainName RX6 = true := by decide +kernel
theorem pn7 : plainName RX7 = true := by decide +kernel
theorem pn8 : plainName RX8 = true := by decide +kernel
theorem pn9 : plainName RX9 = true := by decide +kernel
theorem pn10 : plainName RX10 = true := by decide +kernel
theorem pn11 : plainName RX11 = true := by decide +kernel
theorem pn12 : plainName RX12 = true := by decide +kernel
theorem pn13 : plainName RL = true := by decide +kernel
theorem pn14 : plainName RJ0 = true := by decide +kernel
theorem pn15 : plainName RJ1 = true := by decide +kernel
theorem pn16 : plainName RJ6 = true := by decide +kernel
theorem pn17 : plainName RJ13 = true := by decide +kernel
theorem pn19 : plainName RJ7 = true := by decide +kernel
theorem pn20 : plainName RJ3 = true := by decide +kernel
theorem mh0 : RX0 ≠ "java/lang/invoke/MethodHandle" ∧ RX0 ≠ "java/lang/invoke/VarHandle" := ⟨by decide +kernel, by decide +kernel⟩
theorem mh1 : RX1 ≠ "java/lang/invoke/MethodHandle" ∧ RX1 ≠ "java/lang/invoke/VarHandle" := ⟨by decide +kernel, by decide +kernel⟩
theorem mh2 : RX2 ≠ "java/lang/invoke/MethodHandle" ∧ RX2 ≠ "java/lang/invoke/VarHandle" := ⟨by decide +kernel, by decide +kernel⟩
theorem mh3 : RX3 ≠ "java/lang/invoke/MethodHandle" ∧ RX3 ≠ "java/lang/invoke/VarHandle" := ⟨by decide +kernel, by decide +kernel⟩
theorem mh4 : RX4 ≠ "java/lang/invoke/MethodHandle" ∧ RX4 ≠ "java/lang/invoke/VarHandle" := ⟨by decide +kernel, by decide +kernel⟩
theorem mh5 : RX5 ≠ "java/lang/invoke/MethodHandle" ∧ RX5 ≠ "java/lang/invoke/VarHandle" := ⟨by decide +kernel, by decide +kernel⟩
theorem mh6 : RX6 ≠ "java/lang/invoke/MethodHandle" ∧ RX6 ≠ "java/lang/invoke/VarHandle" := ⟨by decide +kernel, by decide +kernel⟩
theorem mh7 : RX7 ≠ "java/lang/invoke/MethodHandle" ∧ RX7 ≠ "java/lang/invoke/VarHandle" := ⟨by decide +kernel, by decide +kernel⟩
theorem mh8 : RX8 ≠ "java/lang/invoke/MethodHandle" ∧ RX8 ≠ "java/lang/invoke/VarHandle" := ⟨by decide +kernel, by decide +kernel⟩
theorem mh9 : RX9 ≠ "java/lang/invoke/MethodHandle" ∧ RX9 ≠ "java/lang/invoke/VarHandle" := ⟨by decide +kernel, by decide +kernel⟩
theorem mh10 : RX10 ≠ "java/lang/invoke/MethodHandle" ∧ RX10 ≠ "java/lang/invoke/VarHandle" := ⟨by decide +kernel, by decide +kernel⟩
theorem mh11 : RX11 ≠ "java/lang/invoke/MethodHandle" ∧ RX11 ≠ "java/lang/invoke/VarHandle" := ⟨by decide +kernel, by decide +kernel⟩
theorem mh12 : RX12 ≠ "java/lang/invoke/MethodHandle" ∧ RX12 ≠ "java/lang/invoke/VarHandle" := ⟨by decide +kernel, by decide +kernel⟩
theorem mh13 : RL ≠ "java/lang/invoke/MethodHandle" ∧ RL ≠ "java/lang/invoke/VarHandle" := ⟨by decide +kernel, by decide +kernel⟩
theorem mh14 : RJ0 ≠ "java/lang/invoke/MethodHandle" ∧ RJ0 ≠ "java/lang/invoke/VarHandle" := ⟨by decide +kernel, by decide +kernel⟩
theorem mh15 : RJ1 ≠ "java/lang/invoke/MethodHandle" ∧ RJ1 ≠ "java/lang/invoke/VarHandle" := ⟨by decide +kernel, by decide +kernel⟩
theorem mh16 : RJ6 ≠ "java/lang/invoke/MethodHandle" ∧ RJ6 ≠ "java/lang/invoke/VarHandle" := ⟨by decide +kernel, by decide +kernel⟩
theorem mh17 : RJ13 ≠ "java/lang/invoke/MethodHandle" ∧ RJ13 ≠ "java/lang/invoke/VarHandle" := ⟨by decide +kernel, by decide +kernel⟩
theorem mh18 : RJ9 ≠ "java/lang/invoke/MethodHandle" ∧ RJ9 ≠ "java/lang/invoke/VarHandle" := ⟨by decide +kernel, by decide +kernel⟩
theorem mh19 : RJ7 ≠ "java/lang/invoke/MethodHandle" ∧ RJ7 ≠ "java/lang/invoke/VarHandle" := ⟨by decide +kernel, by decide +kernel⟩
theorem mh20 : RJ3 ≠ "java/lang/invoke/MethodHandle" ∧ RJ3 ≠ "java/lang/invoke/VarHandle" := ⟨by decide +kernel, by decide +kernel⟩
theorem mfX0_init : MF mX0_init := ⟨(tg1 (List.mem_of_getElem? (i := 166) rfl) rfl), (tg1 (List.mem_of_getElem? (i := 4) rfl) rfl), plainFor_of_name pn0, mh0, by decide, rfl, fun _ => rfl⟩
theorem mfX0_look : MF mX0_look := ⟨(tg3 (List.mem_of_getElem? (i := 155) rfl) rfl), (tg1 (List.mem_of_getElem? (i := 4) rfl) rfl), plainFor_of_name pn0, mh0, by decide, rfl, fun h => absurd h (by decide)⟩
theorem mfX0_worth : MF mX0_worth := ⟨(tg3 (List.mem_of_getElem? (i := 165) rfl) rfl), (tg1 (List.mem_of_getElem? (i := 4) rfl) rfl), plainFor_of_name pn0, mh0, by decide, rfl, fun h => absurd h (by decide)⟩
theorem mfX0_push : MF mX0_push := ⟨(tg3 (List.mem_of_getElem? (i := 169) rfl) rfl), (tg1 (List.mem_of_getElem? (i := 4) rfl) rfl), plainFor_of_name pn0, mh0, by decide, rfl, fun h => absurd h (by decide)⟩
theorem mfX0_pop : MF mX0_pop := ⟨(tg3 (List.mem_of_getElem? (i := 173) rfl) rfl), (tg1 (List.mem_of_getElem? (i := 4) rfl) rfl), plainFor_of_name pn0, mh0, by decide, rfl, fun h => absurd h (by decide)⟩
theorem mfX0_joined : MF mX0_joined := ⟨(tg3 (List.mem_of_getElem? (i := 176) rfl) rfl), (tg1 (List.mem_of_getElem? (i := 4) rfl) rfl), plainFor_of_name pn0, mh0, by decide, rfl, fun h => absurd h (by decide)⟩
theorem mfX0_kept : MF mX0_kept := ⟨(tg3 (List.mem_of_getElem? (i := 181) rfl) rfl), (tg1 (List.mem_of_getElem? (i := 4) rfl) rfl), plainFor_of_name pn0, mh0, by decide, rfl, fun h => absurd h (by decide)⟩
theorem mfX1_init : MF mX1_init := ⟨(tg5 (List.mem_of_getElem? (i := 174) rfl) rfl), (tg1 (List.mem_of_getElem? (i := 23) rfl) rfl), plainFor_of_name pn1, mh1, by decide, rfl, fun _ => rfl⟩
theorem mfX1_begin : MF mX1_begin := ⟨(tg5 (List.mem_of_getElem? (i := 207) rfl) rfl), (tg1 (List.mem_of_getElem? (i := 23) rfl) rfl), plainFor_of_name pn1, mh1, by decide, rfl, fun h => absurd h (by decide)⟩
theorem mfX1_play : MF mX1_play := ⟨(tg5 (List.mem_of_getElem? (i := 213) rfl) rfl), (tg1 (List.mem_of_getElem? (i := 23) rfl) rfl), plainFor_of_name pn1, mh1, by decide, rfl, fun h => absurd h (by decide)⟩
theorem mfX1_setOut : MF mX1_setOut := ⟨(tg5 (List.mem_of_getElem? (i := 217) rfl) rfl), (tg1 (List.mem_of_getElem? (i := 23) rfl) rfl), plainFor_of_name pn1, mh1, by decide, rfl, fun h => absurd h (by decide)⟩
theorem mfX1_reachedBy : MF mX1_reachedBy := ⟨(tg5 (List.mem_of_getElem? (i := 228) rfl) rfl), (tg1 (List.mem_of_getElem? (i := 23) rfl) rfl), plainFor_of_name pn1, mh1, by decide, rfl, fun h => absurd h (by decide)⟩
theorem mfX1_reachedFrom : MF mX1_reachedFrom := ⟨(tg5 (List.mem_of_getElem? (i := 224) rfl) rfl), (tg1 (List.mem_of_getElem? (i := 23) rfl) rfl), plainFor_of_name pn1, mh1, by decide, rfl, fun h => absurd h (by decide)⟩
theorem mfX1_firstBest : MF mX1_firstBest := ⟨(tg5 (List.mem_of_getElem? (i := 236) rfl) rfl), (tg1 (List.mem_of_getElem? (i := 23) rfl) rfl), plainFor_of_name pn1, mh1, by decide, rfl, fun h => absurd h (by decide)⟩
theorem mfX2_init : MF mX2_init := ⟨(tg2 (List.mem_of_getElem? (i := 34) rfl) rfl), (tg1 (List.mem_of_getElem? (i := 8) rfl) rfl), plainFor_of_name pn2, mh2, by decide, rfl, fun _ => rfl⟩
theorem mfX3_init : MF mX3_init := ⟨(tg5 (List.mem_of_getElem? (i := 60) rfl) rfl), (tg1 (List.mem_of_getElem? (i := 21) rfl) rfl), plainFor_of_name pn3, mh3, by decide, rfl, fun _ => rfl⟩
theorem mfX3_add : MF mX3_add := ⟨(tg5 (List.mem_of_getElem? (i := 72) rfl) rfl), (tg1 (List.mem_of_getElem? (i := 21) rfl) rfl), plainFor_of_name pn3, mh3, by decide, rfl, fun h => absurd h (by decide)⟩
theorem mfX3_size : MF mX3_size := ⟨(tg5 (List.mem_of_getElem? (i := 76) rfl) rfl), (tg1 (List.mem_of_getElem? (i := 21) rfl) rfl), plainFor_of_name pn3, mh3, by decide, rfl, fun h => absurd h (by decide)⟩
theorem mfX4_init : MF mX4_init := ⟨(tg1 (List.mem_of_getElem? (i := 225) rfl) rfl), (tg1 (List.mem_of_getElem? (i := 6) rfl) rfl), plainFor_of_name pn4, mh4, by decide, rfl, fun _ => rfl⟩
theorem mfX4_mark : MF mX4_mark := ⟨(tg3 (List.mem_of_getElem? (i := 199) rfl) rfl), (tg1 (List.mem_of_getElem? (i := 6) rfl) rfl), plainFor_of_name pn4, mh4, by decide, rfl, fun h => absurd h (by decide)⟩
theorem mfX4_keep : MF mX4_keep := ⟨(tg3 (List.mem_of_getElem? (i := 211) rfl) rfl), (tg1 (List.mem_of_getElem? (i := 6) rfl) rfl), plainFor_of_name pn4, mh4, by decide, rfl, fun h => absurd h (by decide)⟩
theorem mfX4_bringBack : MF mX4_bringBack := ⟨(tg4 (List.mem_of_getElem? (i := 9) rfl) rfl), (tg1 (List.mem_of_getElem? (i := 6) rfl) rfl), plainFor_of_name pn4, mh4, by decide, rfl, fun h => absurd h (by decide)⟩
theorem mfX4_forget : MF mX4_forget := ⟨(tg3 (List.mem_of_getElem? (i := 128) rfl) rfl), (tg1 (List.mem_of_getElem? (i := 6) rfl) rfl), plainFor_of_name pn4, mh4, by decide, rfl, fun h => absurd h (by decide)⟩
theorem mfX5_init : MF mX5_init := ⟨(tg1 (List.mem_of_getElem? (i := 42) rfl) rfl), (tg1 (List.mem_of_getElem? (i := 3) rfl) rfl), plainFor_of_name pn5, mh5, by decide, rfl, fun _ => rfl⟩
theorem mfX5_allOdds : MF mX5_allOdds := ⟨(tg6 (List.mem_of_getElem? (i := 13) rfl) rfl), (tg1 (List.mem_of_getElem? (i := 3) rfl) rfl), plainFor_of_name pn5, mh5, by decide, rfl, fun h => absurd h (by decide)⟩
theorem mfX5_greatestDepth : MF mX5_greatestDepth := ⟨(tg6 (List.mem_of_getElem? (i := 62) rfl) rfl), (tg1 (List.mem_of_getElem? (i := 3) rfl) rfl), plainFor_of_name pn5, mh5, by decide, rfl, fun h => absurd h (by decide)⟩
theorem mfX6_init : MF mX6_init := ⟨(tg1 (List.mem_of_getElem? (i := 36) rfl) rfl), (tg1 (List.mem_of_getElem? (i := 2) rfl) rfl), plainFor_of_name pn6, mh6, by decide, rfl, fun _ => rfl⟩
theorem mfX6_add : MF mX6_add := ⟨(tg2 (List.mem_of_getElem? (i := 93) rfl) rfl), (tg1 (List.mem_of_getElem? (i := 2) rfl) rfl), plainFor_of_name pn6, mh6, by decide, rfl, fun h => absurd h (by decide)⟩
theorem mfX6_read : MF mX6_read := ⟨(tg2 (List.mem_of_getElem? (i := 101) rfl) rfl), (tg1 (List.mem_of_getElem? (i := 2) rfl) rfl), plainFor_of_name pn6, mh6, by decide, rfl, fun h => absurd h (by decide)⟩
theorem mfX6_endLine : MF mX6_endLine := ⟨(tg3 (List.mem_of_getElem? (i := 11) rfl) rfl), (tg1 (List.mem_of_getElem? (i := 2) rfl) rfl), plainFor_of_name pn6, mh6, by decide, rfl, fun h => absurd h (by decide)⟩
theorem mfX6_readThing : MF mX6_readThing := ⟨(tg3 (List.mem_of_getElem? (i := 24) rfl) rfl), (tg1 (List.mem_of_getElem? (i := 2) rfl) rfl), plainFor_of_name pn6, mh6, by decide, rfl, fun h => absurd h (by decide)⟩
theorem mfX6_tookPart : MF mX6_tookPart := ⟨(tg3 (List.mem_of_getElem? (i := 29) rfl) rfl), (tg1 (List.mem_of_getElem? (i := 2) rfl) rfl), plainFor_of_name pn6, mh6, by decide, rfl, fun h => absurd h (by decide)⟩
theorem mfX6_readGoer : MF mX6_readGoer := ⟨(tg3 (List.mem_of_getElem? (i := 37) rfl) rfl), (tg1 (List.mem_of_getElem? (i := 2) rfl) rfl), plainFor_of_name pn6, mh6, by decide, rfl, fun h => absurd h (by decide)⟩
theorem mfX6_tookFlag : MF mX6_tookFlag := ⟨(tg3 (List.mem_of_getElem? (i := 42) rfl) rfl), (tg1 (List.mem_of_getElem? (i := 2) rfl) rfl), plainFor_of_name pn6, mh6, by decide, rfl, fun h => absurd h (by decide)⟩
theorem mfX6_readLaw : MF mX6_readLaw := ⟨(tg3 (List.mem_of_getElem? (i := 49) rfl) rfl), (tg1 (List.mem_of_getElem? (i := 2) rfl) rfl), plainFor_of_name pn6, mh6, by decide, rfl, fun h => absurd h (by decide)⟩
theorem mfX6_readSum : MF mX6_readSum := ⟨(tg3 (List.mem_of_getElem? (i := 53) rfl) rfl), (tg1 (List.mem_of_getElem? (i := 2) rfl) rfl), plainFor_of_name pn6, mh6, by decide, rfl, fun h => absurd h (by decide)⟩
theorem mfX6_readTerm : MF mX6_readTerm := ⟨(tg3 (List.mem_of_getElem? (i := 57) rfl) rfl), (tg1 (List.mem_of_getElem? (i := 2) rfl) rfl), plainFor_of_name pn6, mh6, by decide, rfl, fun h => absurd h (by decide)⟩
theorem mfX6_readAtom : MF mX6_readAtom := ⟨(tg3 (List.mem_of_getElem? (i := 61) rfl) rfl), (tg1 (List.mem_of_getElem? (i := 2) rfl) rfl), plainFor_of_name pn6, mh6, by decide, rfl, fun h => absurd h (by decide)⟩
theorem mfX6_readChoice : MF mX6_readChoice := ⟨(tg3 (List.mem_of_getElem? (i := 82) rfl) rfl), (tg1 (List.mem_of_getElem? (i := 2) rfl) rfl), plainFor_of_name pn6, mh6, by decide, rfl, fun h => absurd h (by decide)⟩
theorem mfX6_readTruth : MF mX6_readTruth := ⟨(tg3 (List.mem_of_getElem? (i := 86) rfl) rfl), (tg1 (List.mem_of_getElem? (i := 2) rfl) rfl), plainFor_of_name pn6, mh6, by decide, rfl, fun h => absurd h (by decide)⟩
theorem mfX6_readBoth : MF mX6_readBoth := ⟨(tg3 (List.mem_of_getElem? (i := 90) rfl) rfl), (tg1 (List.mem_of_getElem? (i := 2) rfl) rfl), plainFor_of_name pn6, mh6, by decide, rfl, fun h => absurd h (by decide)⟩
theorem mfX6_readUnit : MF mX6_readUnit := ⟨(tg3 (List.mem_of_getElem? (i := 94) rfl) rfl), (tg1 (List.mem_of_getElem? (i := 2) rfl) rfl), plainFor_of_name pn6, mh6, by decide, rfl, fun h => absurd h (by decide)⟩
theorem mfX6_readComparison : MF mX6_readComparison := ⟨(tg3 (List.mem_of_getElem? (i := 99) rfl) rfl), (tg1 (List.mem_of_getElem? (i := 2) rfl) rfl), plainFor_of_name pn6, mh6, by decide, rfl, fun h => absurd h (by decide)⟩
theorem mfX6_opens : MF mX6_opens := ⟨(tg3 (List.mem_of_getElem? (i := 77) rfl) rfl), (tg1 (List.mem_of_getElem? (i := 2) rfl) rfl), plainFor_of_name pn6, mh6, by decide, rfl, fun h => absurd h (by decide)⟩
theorem mfX6_knownWord : MF mX6_knownWord := ⟨(tg3 (List.mem_of_getElem? (i := 65) rfl) rfl), (tg1 (List.mem_of_getElem? (i := 2) rfl) rfl), plainFor_of_name pn6, mh6, by decide, rfl, fun h => absurd h (by decide)⟩
theorem mfX6_emit : MF mX6_emit := ⟨(tg3 (List.mem_of_getElem? (i := 73) rfl) rfl), (tg1 (List.mem_of_getElem? (i := 2) rfl) rfl), plainFor_of_name pn6, mh6, by decide, rfl, fun h => absurd h (by decide)⟩
theorem mfX6_isSign : MF mX6_isSign := ⟨(tg3 (List.mem_of_getElem? (i := 19) rfl) rfl), (tg1 (List.mem_of_getElem? (i := 2) rfl) rfl), plainFor_of_name pn6, mh6, by decide, rfl, fun h => absurd h (by decide)⟩
theorem mfX6_isWord : MF mX6_isWord := ⟨(tg2 (List.mem_of_getElem? (i := 222) rfl) rfl), (tg1 (List.mem_of_getElem? (i := 2) rfl) rfl), plainFor_of_name pn6, mh6, by decide, rfl, fun h => absurd h (by decide)⟩
theorem mfX6_takeSign : MF mX6_takeSign := ⟨(tg3 (List.mem_of_getElem? (i := 15) rfl) rfl), (tg1 (List.mem_of_getElem? (i := 2) rfl) rfl), plainFor_of_name pn6, mh6, by decide, rfl, fun h => absurd h (by decide)⟩
theorem mfX6_takeWord : MF mX6_takeWord := ⟨(tg2 (List.mem_of_getElem? (i := 218) rfl) rfl), (tg1 (List.mem_of_getElem? (i := 2) rfl) rfl), plainFor_of_name pn6, mh6, by decide, rfl, fun h => absurd h (by decide)⟩
theorem mfX6_takeNumber : MF mX6_takeNumber := ⟨(tg3 (List.mem_of_getElem? (i := 7) rfl) rfl), (tg1 (List.mem_of_getElem? (i := 2) rfl) rfl), plainFor_of_name pn6, mh6, by decide, rfl, fun h => absurd h (by decide)⟩
theorem mfX6_fail : MF mX6_fail := ⟨(tg2 (List.mem_of_getElem? (i := 126) rfl) rfl), (tg1 (List.mem_of_getElem? (i := 2) rfl) rfl), plainFor_of_name pn6, mh6, by decide, rfl, fun h => absurd h (by decide)⟩
theorem mfX6_advance : MF mX6_advance := ⟨(tg2 (List.mem_of_getElem? (i := 105) rfl) rfl), (tg1 (List.mem_of_getElem? (i := 2) rfl) rfl), plainFor_of_name pn6, mh6, by decide, rfl, fun h => absurd h (by decide)⟩
theorem mfX6_endWord : MF mX6_endWord := ⟨(tg2 (List.mem_of_getElem? (i := 115) rfl) rfl), (tg1 (List.mem_of_getElem? (i := 2) rfl) rfl), plainFor_of_name pn6, mh6, by decide, rfl, fun h => absurd h (by decide)⟩
theorem mfX6_endNumber : MF mX6_endNumber := ⟨(tg2 (List.mem_of_getElem? (i := 122) rfl) rfl), (tg1 (List.mem_of_getElem? (i := 2) rfl) rfl), plainFor_of_name pn6, mh6, by decide, rfl, fun h => absurd h (by decide)⟩
theorem mfX6_isBlank : MF mX6_isBlank := ⟨(tg2 (List.mem_of_getElem? (i := 108) rfl) rfl), (tg1 (List.mem_of_getElem? (i := 2) rfl) rfl), plainFor_of_name pn6, mh6, by decide, rfl, fun h => absurd h (by decide)⟩
theorem mfX6_isLetter : MF mX6_isLetter := ⟨(tg2 (List.mem_of_getElem? (i := 111) rfl) rfl), (tg1 (List.mem_of_getElem? (i := 2) rfl) rfl), plainFor_of_name pn6, mh6, by decide, rfl, fun h => absurd h (by decide)⟩
theorem mfX6_isDigit : MF mX6_isDigit := ⟨(tg2 (List.mem_of_getElem? (i := 118) rfl) rfl), (tg1 (List.mem_of_getElem? (i := 2) rfl) rfl), plainFor_of_name pn6, mh6, by decide, rfl, fun h => absurd h (by decide)⟩
theorem mfX7_init : MF mX7_init := ⟨(tg4 (List.mem_of_getElem? (i := 71) rfl) rfl), (tg1 (List.mem_of_getElem? (i := 19) rfl) rfl), plainFor_of_name pn7, mh7, by decide, rfl, fun _ => rfl⟩
theorem mfX7_begin : MF mX7_begin := ⟨(tg4 (List.mem_of_getElem? (i := 128) rfl) rfl), (tg1 (List.mem_of_getElem? (i := 19) rfl) rfl), plainFor_of_name pn7, mh7, by decide, rfl, fun h => absurd h (by decide)⟩
theorem mfX7_forgetGoer : MF mX7_forgetGoer := ⟨(tg4 (List.mem_of_getElem? (i := 132) rfl) rfl), (tg1 (List.mem_of_getElem? (i := 19) rfl) rfl), plainFor_of_name pn7, mh7, by decide, rfl, fun h => absurd h (by decide)⟩
theorem mfX7_explore : MF mX7_explore := ⟨(tg4 (List.mem_of_getElem? (i := 138) rfl) rfl), (tg1 (List.mem_of_getElem? (i := 19) rfl) rfl), plainFor_of_name pn7, mh7, by decide, rfl, fun h => absurd h (by decide)⟩
theorem mfX7_find : MF mX7_find := ⟨(tg4 (List.mem_of_getElem? (i := 145) rfl) rfl), (tg1 (List.mem_of_getElem? (i := 19) rfl) rfl), plainFor_of_name pn7, mh7, by decide, rfl, fun h => absurd h (by decide)⟩
theorem mfX7_after : MF mX7_after := ⟨(tg4 (List.mem_of_getElem? (i := 150) rfl) rfl), (tg1 (List.mem_of_getElem? (i := 19) rfl) rfl), plainFor_of_name pn7, mh7, by decide, rfl, fun h => absurd h (by decide)⟩
theorem mfX7_placeAfter : MF mX7_placeAfter := ⟨(tg5 (List.mem_of_getElem? (i := 16) rfl) rfl), (tg1 (List.mem_of_getElem? (i := 19) rfl) rfl), plainFor_of_name pn7, mh7, by decide, rfl, fun h => absurd h (by decide)⟩
theorem mfX7_boardAt : MF mX7_boardAt := ⟨(tg4 (List.mem_of_getElem? (i := 189) rfl) rfl), (tg1 (List.mem_of_getElem? (i := 19) rfl) rfl), plainFor_of_name pn7, mh7, by decide, rfl, fun h => absurd h (by decide)⟩
theorem mfX7_thingsAt : MF mX7_thingsAt := ⟨(tg4 (List.mem_of_getElem? (i := 165) rfl) rfl), (tg1 (List.mem_of_getElem? (i := 19) rfl) rfl), plainFor_of_name pn7, mh7, by decide, rfl, fun h => absurd h (by decide)⟩
theorem mfX7_placeOfThing : MF mX7_placeOfThing := ⟨(tg4 (List.mem_of_getElem? (i := 161) rfl) rfl), (tg1 (List.mem_of_getElem? (i := 19) rfl) rfl), plainFor_of_name pn7, mh7, by decide, rfl, fun h => absurd h (by decide)⟩
theorem mfX7_placeOfBoard : MF mX7_placeOfBoard := ⟨(tg4 (List.mem_of_getElem? (i := 185) rfl) rfl), (tg1 (List.mem_of_getElem? (i := 19) rfl) rfl), plainFor_of_name pn7, mh7, by decide, rfl, fun h => absurd h (by decide)⟩
theorem mfX7_divesTo : MF mX7_divesTo := ⟨(tg4 (List.mem_of_getElem? (i := 169) rfl) rfl), (tg1 (List.mem_of_getElem? (i := 19) rfl) rfl), plainFor_of_name pn7, mh7, by decide, rfl, fun h => absurd h (by decide)⟩
theorem mfX7_goerTo : MF mX7_goerTo := ⟨(tg4 (List.mem_of_getElem? (i := 177) rfl) rfl), (tg1 (List.mem_of_getElem? (i := 19) rfl) rfl), plainFor_of_name pn7, mh7, by decide, rfl, fun h => absurd h (by decide)⟩
theorem mfX7_canBe : MF mX7_canBe := ⟨(tg5 (List.mem_of_getElem? (i := 35) rfl) rfl), (tg1 (List.mem_of_getElem? (i := 19) rfl) rfl), plainFor_of_name pn7, mh7, by decide, rfl, fun h => absurd h (by decide)⟩
theorem mfX8_init : MF mX8_init := ⟨(tg1 (List.mem_of_getElem? (i := 196) rfl) rfl), (tg1 (List.mem_of_getElem? (i := 5) rfl) rfl), plainFor_of_name pn8, mh8, by decide, rfl, fun _ => rfl⟩
theorem mfX8_begin : MF mX8_begin := ⟨(tg3 (List.mem_of_getElem? (i := 123) rfl) rfl), (tg1 (List.mem_of_getElem? (i := 5) rfl) rfl), plainFor_of_name pn8, mh8, by decide, rfl, fun h => absurd h (by decide)⟩
theorem mfX8_become : MF mX8_become := ⟨(tg3 (List.mem_of_getElem? (i := 203) rfl) rfl), (tg1 (List.mem_of_getElem? (i := 5) rfl) rfl), plainFor_of_name pn8, mh8, by decide, rfl, fun h => absurd h (by decide)⟩
theorem mfX9_init : MF mX9_init := ⟨(tg4 (List.mem_of_getElem? (i := 208) rfl) rfl), (tg1 (List.mem_of_getElem? (i := 20) rfl) rfl), plainFor_of_name pn9, mh9, by decide, rfl, fun _ => rfl⟩
theorem mfX9_seeNothing : MF mX9_seeNothing := ⟨(tg4 (List.mem_of_getElem? (i := 235) rfl) rfl), (tg1 (List.mem_of_getElem? (i := 20) rfl) rfl), plainFor_of_name pn9, mh9, by decide, rfl, fun h => absurd h (by decide)⟩
theorem mfX9_see : MF mX9_see := ⟨(tg5 (List.mem_of_getElem? (i := 104) rfl) rfl), (tg1 (List.mem_of_getElem? (i := 20) rfl) rfl), plainFor_of_name pn9, mh9, by decide, rfl, fun h => absurd h (by decide)⟩
theorem mfX9_fits : MF mX9_fits := ⟨(tg5 (List.mem_of_getElem? (i := 20) rfl) rfl), (tg1 (List.mem_of_getElem? (i := 20) rfl) rfl), plainFor_of_name pn9, mh9, by decide, rfl, fun h => absurd h (by decide)⟩
theorem mfX9_spreadAlike : MF mX9_spreadAlike := ⟨(tg5 (List.mem_of_getElem? (i := 0) rfl) rfl), (tg1 (List.mem_of_getElem? (i := 20) rfl) rfl), plainFor_of_name pn9, mh9, by decide, rfl, fun h => absurd h (by decide)⟩
theorem mfX9_spreadByOdds : MF mX9_spreadByOdds := ⟨(tg6 (List.mem_of_getElem? (i := 8) rfl) rfl), (tg1 (List.mem_of_getElem? (i := 20) rfl) rfl), plainFor_of_name pn9, mh9, by decide, rfl, fun h => absurd h (by decide)⟩
theorem mfX9_spread : MF mX9_spread := ⟨(tg5 (List.mem_of_getElem? (i := 4) rfl) rfl), (tg1 (List.mem_of_getElem? (i := 20) rfl) rfl), plainFor_of_name pn9, mh9, by decide, rfl, fun h => absurd h (by decide)⟩
theorem mfX9_clear : MF mX9_clear := ⟨(tg5 (List.mem_of_getElem? (i := 8) rfl) rfl), (tg1 (List.mem_of_getElem? (i := 20) rfl) rfl), plainFor_of_name pn9, mh9, by decide, rfl, fun h => absurd h (by decide)⟩
theorem mfX9_spreadFrom : MF mX9_spreadFrom := ⟨(tg5 (List.mem_of_getElem? (i := 12) rfl) rfl), (tg1 (List.mem_of_getElem? (i := 20) rfl) rfl), plainFor_of_name pn9, mh9, by decide, rfl, fun h => absurd h (by decide)⟩
theorem mfX9_totalOfAll : MF mX9_totalOfAll := ⟨(tg5 (List.mem_of_getElem? (i := 109) rfl) rfl), (tg1 (List.mem_of_getElem? (i := 20) rfl) rfl), plainFor_of_name pn9, mh9, by decide, rfl, fun h => absurd h (by decide)⟩
theorem mfX9_totalWith : MF mX9_totalWith := ⟨(tg5 (List.mem_of_getElem? (i := 25) rfl) rfl), (tg1 (List.mem_of_getElem? (i := 20) rfl) rfl), plainFor_of_name pn9, mh9, by decide, rfl, fun h => absurd h (by decide)⟩
theorem mfX9_markBack : MF mX9_markBack := ⟨(tg5 (List.mem_of_getElem? (i := 117) rfl) rfl), (tg1 (List.mem_of_getElem? (i := 20) rfl) rfl), plainFor_of_name pn9, mh9, by decide, rfl, fun h => absurd h (by decide)⟩
theorem mfX9_leads : MF mX9_leads := ⟨(tg5 (List.mem_of_getElem? (i := 125) rfl) rfl), (tg1 (List.mem_of_getElem? (i := 20) rfl) rfl), plainFor_of_name pn9, mh9, by decide, rfl, fun h => absurd h (by decide)⟩
theorem mfX9_firstOf : MF mX9_firstOf := ⟨(tg5 (List.mem_of_getElem? (i := 121) rfl) rfl), (tg1 (List.mem_of_getElem? (i := 20) rfl) rfl), plainFor_of_name pn9, mh9, by decide, rfl, fun h => absurd h (by decide)⟩
theorem mfX9_firstGoer : MF mX9_firstGoer := ⟨(tg5 (List.mem_of_getElem? (i := 129) rfl) rfl), (tg1 (List.mem_of_getElem? (i := 20) rfl) rfl), plainFor_of_name pn9, mh9, by decide, rfl, fun h => absurd h (by decide)⟩
theorem mfX9_goersOfAny : MF mX9_goersOfAny := ⟨(tg5 (List.mem_of_getElem? (i := 137) rfl) rfl), (tg1 (List.mem_of_getElem? (i := 20) rfl) rfl), plainFor_of_name pn9, mh9, by decide, rfl, fun h => absurd h (by decide)⟩
theorem mfX9_goersFrom : MF mX9_goersFrom := ⟨(tg5 (List.mem_of_getElem? (i := 141) rfl) rfl), (tg1 (List.mem_of_getElem? (i := 20) rfl) rfl), plainFor_of_name pn9, mh9, by decide, rfl, fun h => absurd h (by decide)⟩
theorem mfX10_init : MF mX10_init := ⟨(tg2 (List.mem_of_getElem? (i := 8) rfl) rfl), (tg1 (List.mem_of_getElem? (i := 7) rfl) rfl), plainFor_of_name pn10, mh10, by decide, rfl, fun _ => rfl⟩
theorem mfX10_begin : MF mX10_begin := ⟨(tg6 (List.mem_of_getElem? (i := 28) rfl) rfl), (tg1 (List.mem_of_getElem? (i := 7) rfl) rfl), plainFor_of_name pn10, mh10, by decide, rfl, fun h => absurd h (by decide)⟩
theorem mfX10_put : MF mX10_put := ⟨(tg6 (List.mem_of_getElem? (i := 41) rfl) rfl), (tg1 (List.mem_of_getElem? (i := 7) rfl) rfl), plainFor_of_name pn10, mh10, by decide, rfl, fun h => absurd h (by decide)⟩
theorem mfX11_init : MF mX11_init := ⟨(tg1 (List.mem_of_getElem? (i := 28) rfl) rfl), (tg1 (List.mem_of_getElem? (i := 1) rfl) rfl), plainFor_of_name pn11, mh11, by decide, rfl, fun _ => rfl⟩
theorem mfX11_feed : MF mX11_feed := ⟨(tg2 (List.mem_of_getElem? (i := 89) rfl) rfl), (tg1 (List.mem_of_getElem? (i := 1) rfl) rfl), plainFor_of_name pn11, mh11, by decide, rfl, fun h => absurd h (by decide)⟩
theorem mfX11_pool : MF mX11_pool := ⟨(tg2 (List.mem_of_getElem? (i := 97) rfl) rfl), (tg1 (List.mem_of_getElem? (i := 1) rfl) rfl), plainFor_of_name pn11, mh11, by decide, rfl, fun h => absurd h (by decide)⟩
theorem mfX11_fault : MF mX11_fault := ⟨(tg3 (List.mem_of_getElem? (i := 132) rfl) rfl), (tg1 (List.mem_of_getElem? (i := 1) rfl) rfl), plainFor_of_name pn11, mh11, by decide, rfl, fun h => absurd h (by decide)⟩
theorem mfX11_thing : MF mX11_thing := ⟨(tg3 (List.mem_of_getElem? (i := 136) rfl) rfl), (tg1 (List.mem_of_getElem? (i := 1) rfl) rfl), plainFor_of_name pn11, mh11, by decide, rfl, fun h => absurd h (by decide)⟩
theorem mfX11_goer : MF mX11_goer := ⟨(tg3 (List.mem_of_getElem? (i := 147) rfl) rfl), (tg1 (List.mem_of_getElem? (i := 1) rfl) rfl), plainFor_of_name pn11, mh11, by decide, rfl, fun h => absurd h (by decide)⟩
theorem mfX11_shows : MF mX11_shows := ⟨(tg3 (List.mem_of_getElem? (i := 187) rfl) rfl), (tg1 (List.mem_of_getElem? (i := 1) rfl) rfl), plainFor_of_name pn11, mh11, by decide, rfl, fun h => absurd h (by decide)⟩
theorem mfX11_truthful : MF mX11_truthful := ⟨(tg3 (List.mem_of_getElem? (i := 191) rfl) rfl), (tg1 (List.mem_of_getElem? (i := 1) rfl) rfl), plainFor_of_name pn11, mh11, by decide, rfl, fun h => absurd h (by decide)⟩
theorem mfX11_dive : MF mX11_dive := ⟨(tg3 (List.mem_of_getElem? (i := 195) rfl) rfl), (tg1 (List.mem_of_getElem? (i := 1) rfl) rfl), plainFor_of_name pn11, mh11, by decide, rfl, fun h => absurd h (by decide)⟩
theorem mfX11_say : MF mX11_say := ⟨(tg3 (List.mem_of_getElem? (i := 216) rfl) rfl), (tg1 (List.mem_of_getElem? (i := 1) rfl) rfl), plainFor_of_name pn11, mh11, by decide, rfl, fun h => absurd h (by decide)⟩
theorem mfX11_wipe : MF mX11_wipe := ⟨(tg3 (List.mem_of_getElem? (i := 224) rfl) rfl), (tg1 (List.mem_of_getElem? (i := 1) rfl) rfl), plainFor_of_name pn11, mh11, by decide, rfl, fun h => absurd h (by decide)⟩
theorem mfX11_breath : MF mX11_breath := ⟨(tg3 (List.mem_of_getElem? (i := 233) rfl) rfl), (tg1 (List.mem_of_getElem? (i := 1) rfl) rfl), plainFor_of_name pn11, mh11, by decide, rfl, fun h => absurd h (by decide)⟩
theorem mfX11_bold : MF mX11_bold := ⟨(tg3 (List.mem_of_getElem? (i := 237) rfl) rfl), (tg1 (List.mem_of_getElem? (i := 1) rfl) rfl), plainFor_of_name pn11, mh11, by decide, rfl, fun h => absurd h (by decide)⟩
theorem mfX11_undo : MF mX11_undo := ⟨(tg4 (List.mem_of_getElem? (i := 5) rfl) rfl), (tg1 (List.mem_of_getElem? (i := 1) rfl) rfl), plainFor_of_name pn11, mh11, by decide, rfl, fun h => absurd h (by decide)⟩
theorem mfX11_judge : MF mX11_judge := ⟨(tg4 (List.mem_of_getElem? (i := 13) rfl) rfl), (tg1 (List.mem_of_getElem? (i := 1) rfl) rfl), plainFor_of_name pn11, mh11, by decide, rfl, fun h => absurd h (by decide)⟩
theorem mfX11_perform : MF mX11_perform := ⟨(tg4 (List.mem_of_getElem? (i := 31) rfl) rfl), (tg1 (List.mem_of_getElem? (i := 1) rfl) rfl), plainFor_of_name pn11, mh11, by decide, rfl, fun h => absurd h (by decide)⟩
theorem mfX11_summer : MF mX11_summer := ⟨(tg4 (List.mem_of_getElem? (i := 35) rfl) rfl), (tg1 (List.mem_of_getElem? (i := 1) rfl) rfl), plainFor_of_name pn11, mh11, by decide, rfl, fun h => absurd h (by decide)⟩
theorem mfX11_soonest : MF mX11_soonest := ⟨(tg4 (List.mem_of_getElem? (i := 46) rfl) rfl), (tg1 (List.mem_of_getElem? (i := 1) rfl) rfl), plainFor_of_name pn11, mh11, by decide, rfl, fun h => absurd h (by decide)⟩
theorem mfX11_way : MF mX11_way := ⟨(tg4 (List.mem_of_getElem? (i := 173) rfl) rfl), (tg1 (List.mem_of_getElem? (i := 1) rfl) rfl), plainFor_of_name pn11, mh11, by decide, rfl, fun h => absurd h (by decide)⟩
theorem mfX11_tells : MF mX11_tells := ⟨(tg4 (List.mem_of_getElem? (i := 181) rfl) rfl), (tg1 (List.mem_of_getElem? (i := 1) rfl) rfl), plainFor_of_name pn11, mh11, by decide, rfl, fun h => absurd h (by decide)⟩
theorem mfX11_tellsBy : MF mX11_tellsBy := ⟨(tg4 (List.mem_of_getElem? (i := 193) rfl) rfl), (tg1 (List.mem_of_getElem? (i := 1) rfl) rfl), plainFor_of_name pn11, mh11, by decide, rfl, fun h => absurd h (by decide)⟩
theorem mfX11_rows : MF mX11_rows := ⟨(tg4 (List.mem_of_getElem? (i := 197) rfl) rfl), (tg1 (List.mem_of_getElem? (i := 1) rfl) rfl), plainFor_of_name pn11, mh11, by decide, rfl, fun h => absurd h (by decide)⟩
theorem mfX11_needed : MF mX11_needed := ⟨(tg5 (List.mem_of_getElem? (i := 31) rfl) rfl), (tg1 (List.mem_of_getElem? (i := 1) rfl) rfl), plainFor_of_name pn11, mh11, by decide, rfl, fun h => absurd h (by decide)⟩
theorem mfX11_fewest : MF mX11_fewest := ⟨(tg5 (List.mem_of_getElem? (i := 40) rfl) rfl), (tg1 (List.mem_of_getElem? (i := 1) rfl) rfl), plainFor_of_name pn11, mh11, by decide, rfl, fun h => absurd h (by decide)⟩
theorem mfX11_deepest : MF mX11_deepest := ⟨(tg5 (List.mem_of_getElem? (i := 44) rfl) rfl), (tg1 (List.mem_of_getElem? (i := 1) rfl) rfl), plainFor_of_name pn11, mh11, by decide, rfl, fun h => absurd h (by decide)⟩
theorem mfX11_shallowest : MF mX11_shallowest := ⟨(tg5 (List.mem_of_getElem? (i := 50) rfl) rfl), (tg1 (List.mem_of_getElem? (i := 1) rfl) rfl), plainFor_of_name pn11, mh11, by decide, rfl, fun h => absurd h (by decide)⟩
theorem mfX11_numbersTold : MF mX11_numbersTold := ⟨(tg5 (List.mem_of_getElem? (i := 55) rfl) rfl), (tg1 (List.mem_of_getElem? (i := 1) rfl) rfl), plainFor_of_name pn11, mh11, by decide, rfl, fun h => absurd h (by decide)⟩
theorem mfX11_possible : MF mX11_possible := ⟨(tg5 (List.mem_of_getElem? (i := 86) rfl) rfl), (tg1 (List.mem_of_getElem? (i := 1) rfl) rfl), plainFor_of_name pn11, mh11, by decide, rfl, fun h => absurd h (by decide)⟩
theorem mfX11_stands : MF mX11_stands := ⟨(tg5 (List.mem_of_getElem? (i := 90) rfl) rfl), (tg1 (List.mem_of_getElem? (i := 1) rfl) rfl), plainFor_of_name pn11, mh11, by decide, rfl, fun h => absurd h (by decide)⟩
theorem mfX11_posted : MF mX11_posted := ⟨(tg5 (List.mem_of_getElem? (i := 94) rfl) rfl), (tg1 (List.mem_of_getElem? (i := 1) rfl) rfl), plainFor_of_name pn11, mh11, by decide, rfl, fun h => absurd h (by decide)⟩
theorem mfX11_whoPosted : MF mX11_whoPosted := ⟨(tg5 (List.mem_of_getElem? (i := 113) rfl) rfl), (tg1 (List.mem_of_getElem? (i := 1) rfl) rfl), plainFor_of_name pn11, mh11, by decide, rfl, fun h => absurd h (by decide)⟩
theorem mfX11_suspects : MF mX11_suspects := ⟨(tg5 (List.mem_of_getElem? (i := 133) rfl) rfl), (tg1 (List.mem_of_getElem? (i := 1) rfl) rfl), plainFor_of_name pn11, mh11, by decide, rfl, fun h => absurd h (by decide)⟩
theorem mfX11_bolds : MF mX11_bolds := ⟨(tg5 (List.mem_of_getElem? (i := 145) rfl) rfl), (tg1 (List.mem_of_getElem? (i := 1) rfl) rfl), plainFor_of_name pn11, mh11, by decide, rfl, fun h => absurd h (by decide)⟩
theorem mfX11_nexts : MF mX11_nexts := ⟨(tg5 (List.mem_of_getElem? (i := 157) rfl) rfl), (tg1 (List.mem_of_getElem? (i := 1) rfl) rfl), plainFor_of_name pn11, mh11, by decide, rfl, fun h => absurd h (by decide)⟩
theorem mfX11_forces : MF mX11_forces := ⟨(tg5 (List.mem_of_getElem? (i := 161) rfl) rfl), (tg1 (List.mem_of_getElem? (i := 1) rfl) rfl), plainFor_of_name pn11, mh11, by decide, rfl, fun h => absurd h (by decide)⟩
theorem mfX11_best : MF mX11_best := ⟨(tg5 (List.mem_of_getElem? (i := 232) rfl) rfl), (tg1 (List.mem_of_getElem? (i := 1) rfl) rfl), plainFor_of_name pn11, mh11, by decide, rfl, fun h => absurd h (by decide)⟩
theorem mfX11_power : MF mX11_power := ⟨(tg6 (List.mem_of_getElem? (i := 0) rfl) rfl), (tg1 (List.mem_of_getElem? (i := 1) rfl) rfl), plainFor_of_name pn11, mh11, by decide, rfl, fun h => absurd h (by decide)⟩
theorem mfX11_chance : MF mX11_chance := ⟨(tg6 (List.mem_of_getElem? (i := 4) rfl) rfl), (tg1 (List.mem_of_getElem? (i := 1) rfl) rfl), plainFor_of_name pn11, mh11, by decide, rfl, fun h => absurd h (by decide)⟩
theorem mfX11_likeliest : MF mX11_likeliest := ⟨(tg6 (List.mem_of_getElem? (i := 20) rfl) rfl), (tg1 (List.mem_of_getElem? (i := 1) rfl) rfl), plainFor_of_name pn11, mh11, by decide, rfl, fun h => absurd h (by decide)⟩
theorem mfX11_numbers : MF mX11_numbers := ⟨(tg6 (List.mem_of_getElem? (i := 24) rfl) rfl), (tg1 (List.mem_of_getElem? (i := 1) rfl) rfl), plainFor_of_name pn11, mh11, by decide, rfl, fun h => absurd h (by decide)⟩
theorem mfX11_write : MF mX11_write := ⟨(tg6 (List.mem_of_getElem? (i := 35) rfl) rfl), (tg1 (List.mem_of_getElem? (i := 1) rfl) rfl), plainFor_of_name pn11, mh11, by decide, rfl, fun h => absurd h (by decide)⟩
theorem mfX11_lists : MF mX11_lists := ⟨(tg6 (List.mem_of_getElem? (i := 45) rfl) rfl), (tg1 (List.mem_of_getElem? (i := 1) rfl) rfl), plainFor_of_name pn11, mh11, by decide, rfl, fun h => absurd h (by decide)⟩
theorem mfX11_image : MF mX11_image := ⟨(tg6 (List.mem_of_getElem? (i := 49) rfl) rfl), (tg1 (List.mem_of_getElem? (i := 1) rfl) rfl), plainFor_of_name pn11, mh11, by decide, rfl, fun h => absurd h (by decide)⟩
theorem mfX11_restore : MF mX11_restore := ⟨(tg6 (List.mem_of_getElem? (i := 53) rfl) rfl), (tg1 (List.mem_of_getElem? (i := 1) rfl) rfl), plainFor_of_name pn11, mh11, by decide, rfl, fun h => absurd h (by decide)⟩
theorem mfX11_count : MF mX11_count := ⟨(tg6 (List.mem_of_getElem? (i := 57) rfl) rfl), (tg1 (List.mem_of_getElem? (i := 1) rfl) rfl), plainFor_of_name pn11, mh11, by decide, rfl, fun h => absurd h (by decide)⟩
theorem mfX11_isThing : MF mX11_isThing := ⟨(tg3 (List.mem_of_getElem? (i := 140) rfl) rfl), (tg1 (List.mem_of_getElem? (i := 1) rfl) rfl), plainFor_of_name pn11, mh11, by decide, rfl, fun h => absurd h (by decide)⟩
theorem mfX11_isGoer : MF mX11_isGoer := ⟨(tg3 (List.mem_of_getElem? (i := 151) rfl) rfl), (tg1 (List.mem_of_getElem? (i := 1) rfl) rfl), plainFor_of_name pn11, mh11, by decide, rfl, fun h => absurd h (by decide)⟩
theorem mfX11_isTray : MF mX11_isTray := ⟨(tg4 (List.mem_of_getElem? (i := 17) rfl) rfl), (tg1 (List.mem_of_getElem? (i := 1) rfl) rfl), plainFor_of_name pn11, mh11, by decide, rfl, fun h => absurd h (by decide)⟩
theorem mfX11_isSet : MF mX11_isSet := ⟨(tg4 (List.mem_of_getElem? (i := 54) rfl) rfl), (tg1 (List.mem_of_getElem? (i := 1) rfl) rfl), plainFor_of_name pn11, mh11, by decide, rfl, fun h => absurd h (by decide)⟩
theorem mfX11_allGoers : MF mX11_allGoers := ⟨(tg4 (List.mem_of_getElem? (i := 58) rfl) rfl), (tg1 (List.mem_of_getElem? (i := 1) rfl) rfl), plainFor_of_name pn11, mh11, by decide, rfl, fun h => absurd h (by decide)⟩
theorem mfX11_comingRefused : MF mX11_comingRefused := ⟨(tg4 (List.mem_of_getElem? (i := 50) rfl) rfl), (tg1 (List.mem_of_getElem? (i := 1) rfl) rfl), plainFor_of_name pn11, mh11, by decide, rfl, fun h => absurd h (by decide)⟩
theorem mfX11_forcingRefused : MF mX11_forcingRefused := ⟨(tg5 (List.mem_of_getElem? (i := 165) rfl) rfl), (tg1 (List.mem_of_getElem? (i := 1) rfl) rfl), plainFor_of_name pn11, mh11, by decide, rfl, fun h => absurd h (by decide)⟩
theorem mfX11_postedRefused : MF mX11_postedRefused := ⟨(tg5 (List.mem_of_getElem? (i := 98) rfl) rfl), (tg1 (List.mem_of_getElem? (i := 1) rfl) rfl), plainFor_of_name pn11, mh11, by decide, rfl, fun h => absurd h (by decide)⟩
theorem mfX11_aloneRefused : MF mX11_aloneRefused := ⟨(tg5 (List.mem_of_getElem? (i := 149) rfl) rfl), (tg1 (List.mem_of_getElem? (i := 1) rfl) rfl), plainFor_of_name pn11, mh11, by decide, rfl, fun h => absurd h (by decide)⟩
theorem mfX11_act : MF mX11_act := ⟨(tg4 (List.mem_of_getElem? (i := 26) rfl) rfl), (tg1 (List.mem_of_getElem? (i := 1) rfl) rfl), plainFor_of_name pn11, mh11, by decide, rfl, fun h => absurd h (by decide)⟩
theorem mfX11_actAll : MF mX11_actAll := ⟨(tg4 (List.mem_of_getElem? (i := 22) rfl) rfl), (tg1 (List.mem_of_getElem? (i := 1) rfl) rfl), plainFor_of_name pn11, mh11, by decide, rfl, fun h => absurd h (by decide)⟩
theorem mfX11_actDive : MF mX11_actDive := ⟨(tg3 (List.mem_of_getElem? (i := 207) rfl) rfl), (tg1 (List.mem_of_getElem? (i := 1) rfl) rfl), plainFor_of_name pn11, mh11, by decide, rfl, fun h => absurd h (by decide)⟩
theorem mfX11_actSay : MF mX11_actSay := ⟨(tg3 (List.mem_of_getElem? (i := 220) rfl) rfl), (tg1 (List.mem_of_getElem? (i := 1) rfl) rfl), plainFor_of_name pn11, mh11, by decide, rfl, fun h => absurd h (by decide)⟩
theorem mfX11_actWipe : MF mX11_actWipe := ⟨(tg3 (List.mem_of_getElem? (i := 228) rfl) rfl), (tg1 (List.mem_of_getElem? (i := 1) rfl) rfl), plainFor_of_name pn11, mh11, by decide, rfl, fun h => absurd h (by decide)⟩
theorem mfX11_actBold : MF mX11_actBold := ⟨(tg4 (List.mem_of_getElem? (i := 1) rfl) rfl), (tg1 (List.mem_of_getElem? (i := 1) rfl) rfl), plainFor_of_name pn11, mh11, by decide, rfl, fun h => absurd h (by decide)⟩
theorem mfX11_wentAlone : MF mX11_wentAlone := ⟨(tg5 (List.mem_of_getElem? (i := 153) rfl) rfl), (tg1 (List.mem_of_getElem? (i := 1) rfl) rfl), plainFor_of_name pn11, mh11, by decide, rfl, fun h => absurd h (by decide)⟩
theorem mfX11_ready : MF mX11_ready := ⟨(tg4 (List.mem_of_getElem? (i := 66) rfl) rfl), (tg1 (List.mem_of_getElem? (i := 1) rfl) rfl), plainFor_of_name pn11, mh11, by decide, rfl, fun h => absurd h (by decide)⟩
theorem mfX11_explored : MF mX11_explored := ⟨(tg4 (List.mem_of_getElem? (i := 62) rfl) rfl), (tg1 (List.mem_of_getElem? (i := 1) rfl) rfl), plainFor_of_name pn11, mh11, by decide, rfl, fun h => absurd h (by decide)⟩
theorem mfX11_tallyOfAll : MF mX11_tallyOfAll := ⟨(tg4 (List.mem_of_getElem? (i := 203) rfl) rfl), (tg1 (List.mem_of_getElem? (i := 1) rfl) rfl), plainFor_of_name pn11, mh11, by decide, rfl, fun h => absurd h (by decide)⟩
theorem mfX11_gameOf : MF mX11_gameOf := ⟨(tg5 (List.mem_of_getElem? (i := 169) rfl) rfl), (tg1 (List.mem_of_getElem? (i := 1) rfl) rfl), plainFor_of_name pn11, mh11, by decide, rfl, fun h => absurd h (by decide)⟩
theorem mfX11_has : MF mX11_has := ⟨(tg3 (List.mem_of_getElem? (i := 143) rfl) rfl), (tg1 (List.mem_of_getElem? (i := 1) rfl) rfl), plainFor_of_name pn11, mh11, by decide, rfl, fun h => absurd h (by decide)⟩
theorem mfX11_stateOf : MF mX11_stateOf := ⟨(tg4 (List.mem_of_getElem? (i := 141) rfl) rfl), (tg1 (List.mem_of_getElem? (i := 1) rfl) rfl), plainFor_of_name pn11, mh11, by decide, rfl, fun h => absurd h (by decide)⟩
theorem mfX11_boardOf : MF mX11_boardOf := ⟨(tg4 (List.mem_of_getElem? (i := 153) rfl) rfl), (tg1 (List.mem_of_getElem? (i := 1) rfl) rfl), plainFor_of_name pn11, mh11, by decide, rfl, fun h => absurd h (by decide)⟩
theorem mfX11_thingsOf : MF mX11_thingsOf := ⟨(tg4 (List.mem_of_getElem? (i := 156) rfl) rfl), (tg1 (List.mem_of_getElem? (i := 1) rfl) rfl), plainFor_of_name pn11, mh11, by decide, rfl, fun h => absurd h (by decide)⟩
theorem mfX11_drawnNext : MF mX11_drawnNext := ⟨(tg4 (List.mem_of_getElem? (i := 38) rfl) rfl), (tg1 (List.mem_of_getElem? (i := 1) rfl) rfl), plainFor_of_name pn11, mh11, by decide, rfl, fun h => absurd h (by decide)⟩
theorem mfX11_drawn : MF mX11_drawn := ⟨(tg4 (List.mem_of_getElem? (i := 42) rfl) rfl), (tg1 (List.mem_of_getElem? (i := 1) rfl) rfl), plainFor_of_name pn11, mh11, by decide, rfl, fun h => absurd h (by decide)⟩
theorem mfX11_greatestShared : MF mX11_greatestShared := ⟨(tg6 (List.mem_of_getElem? (i := 16) rfl) rfl), (tg1 (List.mem_of_getElem? (i := 1) rfl) rfl), plainFor_of_name pn11, mh11, by decide, rfl, fun h => absurd h (by decide)⟩
theorem mfX12_within : MF mX12_within := ⟨(tg6 (List.mem_of_getElem? (i := 201) rfl) rfl), (tg1 (List.mem_of_getElem? (i := 9) rfl) rfl), plainFor_of_name pn12, mh12, by decide, rfl, fun h => absurd h (by decide)⟩
theorem mfX12_init : MF mX12_init := ⟨(tg6 (List.mem_of_getElem? (i := 68) rfl) rfl), (tg1 (List.mem_of_getElem? (i := 9) rfl) rfl), plainFor_of_name pn12, mh12, by decide, rfl, fun _ => rfl⟩
theorem mfX12_plain : MF mX12_plain := ⟨(tg6 (List.mem_of_getElem? (i := 74) rfl) rfl), (tg1 (List.mem_of_getElem? (i := 9) rfl) rfl), plainFor_of_name pn12, mh12, by decide, rfl, fun h => absurd h (by decide)⟩
theorem mfX12_feed : MF mX12_feed := ⟨(tg6 (List.mem_of_getElem? (i := 194) rfl) rfl), (tg1 (List.mem_of_getElem? (i := 9) rfl) rfl), plainFor_of_name pn12, mh12, by decide, rfl, fun h => absurd h (by decide)⟩
theorem mfX12_see : MF mX12_see := ⟨(tg6 (List.mem_of_getElem? (i := 209) rfl) rfl), (tg1 (List.mem_of_getElem? (i := 9) rfl) rfl), plainFor_of_name pn12, mh12, by decide, rfl, fun h => absurd h (by decide)⟩
theorem mfX12_isSmall : MF mX12_isSmall := ⟨(tg6 (List.mem_of_getElem? (i := 212) rfl) rfl), (tg1 (List.mem_of_getElem? (i := 9) rfl) rfl), plainFor_of_name pn12, mh12, by decide, rfl, fun h => absurd h (by decide)⟩
theorem mfX12_isDigit : MF mX12_isDigit := ⟨(tg6 (List.mem_of_getElem? (i := 222) rfl) rfl), (tg1 (List.mem_of_getElem? (i := 9) rfl) rfl), plainFor_of_name pn12, mh12, by decide, rfl, fun h => absurd h (by decide)⟩
theorem mfX12_keyAt : MF mX12_keyAt := ⟨(tg6 (List.mem_of_getElem? (i := 216) rfl) rfl), (tg1 (List.mem_of_getElem? (i := 9) rfl) rfl), plainFor_of_name pn12, mh12, by decide, rfl, fun h => absurd h (by decide)⟩
theorem mfX12_next : MF mX12_next := ⟨(tg6 (List.mem_of_getElem? (i := 205) rfl) rfl), (tg1 (List.mem_of_getElem? (i := 9) rfl) rfl), plainFor_of_name pn12, mh12, by decide, rfl, fun h => absurd h (by decide)⟩
theorem mfX12_fails : MF mX12_fails := ⟨(tg6 (List.mem_of_getElem? (i := 235) rfl) rfl), (tg1 (List.mem_of_getElem? (i := 9) rfl) rfl), plainFor_of_name pn12, mh12, by decide, rfl, fun h => absurd h (by decide)⟩
theorem mfX12_is : MF mX12_is := ⟨(tg6 (List.mem_of_getElem? (i := 231) rfl) rfl), (tg1 (List.mem_of_getElem? (i := 9) rfl) rfl), plainFor_of_name pn12, mh12, by decide, rfl, fun h => absurd h (by decide)⟩
theorem mfX12_eats : MF mX12_eats := ⟨(tg6 (List.mem_of_getElem? (i := 227) rfl) rfl), (tg1 (List.mem_of_getElem? (i := 9) rfl) rfl), plainFor_of_name pn12, mh12, by decide, rfl, fun h => absurd h (by decide)⟩
theorem mfX12_takes : MF mX12_takes := ⟨(tg6 (List.mem_of_getElem? (i := 239) rfl) rfl), (tg1 (List.mem_of_getElem? (i := 9) rfl) rfl), plainFor_of_name pn12, mh12, by decide, rfl, fun h => absurd h (by decide)⟩
theorem mfX12_isIn : MF mX12_isIn := ⟨(tg7 (List.mem_of_getElem? (i := 106) rfl) rfl), (tg1 (List.mem_of_getElem? (i := 9) rfl) rfl), plainFor_of_name pn12, mh12, by decide, rfl, fun h => absurd h (by decide)⟩
theorem mfX12_wordOf : MF mX12_wordOf := ⟨(tg7 (List.mem_of_getElem? (i := 43) rfl) rfl), (tg1 (List.mem_of_getElem? (i := 9) rfl) rfl), plainFor_of_name pn12, mh12, by decide, rfl, fun h => absurd h (by decide)⟩
theorem mfX12_codes : MF mX12_codes := ⟨(tg7 (List.mem_of_getElem? (i := 39) rfl) rfl), (tg1 (List.mem_of_getElem? (i := 9) rfl) rfl), plainFor_of_name pn12, mh12, by decide, rfl, fun h => absurd h (by decide)⟩
theorem mfX12_goesIn : MF mX12_goesIn := ⟨(tg7 (List.mem_of_getElem? (i := 47) rfl) rfl), (tg1 (List.mem_of_getElem? (i := 9) rfl) rfl), plainFor_of_name pn12, mh12, by decide, rfl, fun h => absurd h (by decide)⟩
theorem mfX12_readAtom : MF mX12_readAtom := ⟨(tg7 (List.mem_of_getElem? (i := 35) rfl) rfl), (tg1 (List.mem_of_getElem? (i := 9) rfl) rfl), plainFor_of_name pn12, mh12, by decide, rfl, fun h => absurd h (by decide)⟩
theorem mfX12_readIf : MF mX12_readIf := ⟨(tg7 (List.mem_of_getElem? (i := 51) rfl) rfl), (tg1 (List.mem_of_getElem? (i := 9) rfl) rfl), plainFor_of_name pn12, mh12, by decide, rfl, fun h => absurd h (by decide)⟩
theorem mfX12_readTerm : MF mX12_readTerm := ⟨(tg7 (List.mem_of_getElem? (i := 31) rfl) rfl), (tg1 (List.mem_of_getElem? (i := 9) rfl) rfl), plainFor_of_name pn12, mh12, by decide, rfl, fun h => absurd h (by decide)⟩
theorem mfX12_readSum : MF mX12_readSum := ⟨(tg7 (List.mem_of_getElem? (i := 27) rfl) rfl), (tg1 (List.mem_of_getElem? (i := 9) rfl) rfl), plainFor_of_name pn12, mh12, by decide, rfl, fun h => absurd h (by decide)⟩
theorem mfX12_readUnit : MF mX12_readUnit := ⟨(tg7 (List.mem_of_getElem? (i := 63) rfl) rfl), (tg1 (List.mem_of_getElem? (i := 9) rfl) rfl), plainFor_of_name pn12, mh12, by decide, rfl, fun h => absurd h (by decide)⟩
theorem mfX12_readBoth : MF mX12_readBoth := ⟨(tg7 (List.mem_of_getElem? (i := 59) rfl) rfl), (tg1 (List.mem_of_getElem? (i := 9) rfl) rfl), plainFor_of_name pn12, mh12, by decide, rfl, fun h => absurd h (by decide)⟩
theorem mfX12_readTruth : MF mX12_readTruth := ⟨(tg7 (List.mem_of_getElem? (i := 55) rfl) rfl), (tg1 (List.mem_of_getElem? (i := 9) rfl) rfl), plainFor_of_name pn12, mh12, by decide, rfl, fun h => absurd h (by decide)⟩
theorem mfX12_readPart : MF mX12_readPart := ⟨(tg7 (List.mem_of_getElem? (i := 15) rfl) rfl), (tg1 (List.mem_of_getElem? (i := 9) rfl) rfl), plainFor_of_name pn12, mh12, by decide, rfl, fun h => absurd h (by decide)⟩
theorem mfX12_readThing : MF mX12_readThing := ⟨(tg7 (List.mem_of_getElem? (i := 11) rfl) rfl), (tg1 (List.mem_of_getElem? (i := 9) rfl) rfl), plainFor_of_name pn12, mh12, by decide, rfl, fun h => absurd h (by decide)⟩
theorem mfX12_readGoer : MF mX12_readGoer := ⟨(tg7 (List.mem_of_getElem? (i := 19) rfl) rfl), (tg1 (List.mem_of_getElem? (i := 9) rfl) rfl), plainFor_of_name pn12, mh12, by decide, rfl, fun h => absurd h (by decide)⟩
theorem mfX12_readLaw : MF mX12_readLaw := ⟨(tg7 (List.mem_of_getElem? (i := 23) rfl) rfl), (tg1 (List.mem_of_getElem? (i := 9) rfl) rfl), plainFor_of_name pn12, mh12, by decide, rfl, fun h => absurd h (by decide)⟩
theorem mfX12_readLine : MF mX12_readLine := ⟨(tg7 (List.mem_of_getElem? (i := 7) rfl) rfl), (tg1 (List.mem_of_getElem? (i := 9) rfl) rfl), plainFor_of_name pn12, mh12, by decide, rfl, fun h => absurd h (by decide)⟩
theorem mfX12_ends : MF mX12_ends := ⟨(tg7 (List.mem_of_getElem? (i := 3) rfl) rfl), (tg1 (List.mem_of_getElem? (i := 9) rfl) rfl), plainFor_of_name pn12, mh12, by decide, rfl, fun h => absurd h (by decide)⟩
theorem mfX12_pool : MF mX12_pool := ⟨(tg6 (List.mem_of_getElem? (i := 198) rfl) rfl), (tg1 (List.mem_of_getElem? (i := 9) rfl) rfl), plainFor_of_name pn12, mh12, by decide, rfl, fun h => absurd h (by decide)⟩
theorem mfX12_fault : MF mX12_fault := ⟨(tg7 (List.mem_of_getElem? (i := 67) rfl) rfl), (tg1 (List.mem_of_getElem? (i := 9) rfl) rfl), plainFor_of_name pn12, mh12, by decide, rfl, fun h => absurd h (by decide)⟩
theorem mfX12_isThing : MF mX12_isThing := ⟨(tg7 (List.mem_of_getElem? (i := 75) rfl) rfl), (tg1 (List.mem_of_getElem? (i := 9) rfl) rfl), plainFor_of_name pn12, mh12, by decide, rfl, fun h => absurd h (by decide)⟩
theorem mfX12_isGoer : MF mX12_isGoer := ⟨(tg7 (List.mem_of_getElem? (i := 83) rfl) rfl), (tg1 (List.mem_of_getElem? (i := 9) rfl) rfl), plainFor_of_name pn12, mh12, by decide, rfl, fun h => absurd h (by decide)⟩
theorem mfX12_isSet : MF mX12_isSet := ⟨(tg7 (List.mem_of_getElem? (i := 223) rfl) rfl), (tg1 (List.mem_of_getElem? (i := 9) rfl) rfl), plainFor_of_name pn12, mh12, by decide, rfl, fun h => absurd h (by decide)⟩
theorem mfX12_bitsOf : MF mX12_bitsOf := ⟨(tg7 (List.mem_of_getElem? (i := 94) rfl) rfl), (tg1 (List.mem_of_getElem? (i := 9) rfl) rfl), plainFor_of_name pn12, mh12, by decide, rfl, fun h => absurd h (by decide)⟩
theorem mfX12_between : MF mX12_between := ⟨(tg7 (List.mem_of_getElem? (i := 101) rfl) rfl), (tg1 (List.mem_of_getElem? (i := 9) rfl) rfl), plainFor_of_name pn12, mh12, by decide, rfl, fun h => absurd h (by decide)⟩
theorem mfX12_reckons : MF mX12_reckons := ⟨(tg7 (List.mem_of_getElem? (i := 98) rfl) rfl), (tg1 (List.mem_of_getElem? (i := 9) rfl) rfl), plainFor_of_name pn12, mh12, by decide, rfl, fun h => absurd h (by decide)⟩
theorem mfX12_laysDive : MF mX12_laysDive := ⟨(tg7 (List.mem_of_getElem? (i := 91) rfl) rfl), (tg1 (List.mem_of_getElem? (i := 9) rfl) rfl), plainFor_of_name pn12, mh12, by decide, rfl, fun h => absurd h (by decide)⟩
theorem mfX12_laysNow : MF mX12_laysNow := ⟨(tg7 (List.mem_of_getElem? (i := 87) rfl) rfl), (tg1 (List.mem_of_getElem? (i := 9) rfl) rfl), plainFor_of_name pn12, mh12, by decide, rfl, fun h => absurd h (by decide)⟩
theorem mfX12_thing : MF mX12_thing := ⟨(tg7 (List.mem_of_getElem? (i := 71) rfl) rfl), (tg1 (List.mem_of_getElem? (i := 9) rfl) rfl), plainFor_of_name pn12, mh12, by decide, rfl, fun h => absurd h (by decide)⟩
theorem mfX12_goer : MF mX12_goer := ⟨(tg7 (List.mem_of_getElem? (i := 79) rfl) rfl), (tg1 (List.mem_of_getElem? (i := 9) rfl) rfl), plainFor_of_name pn12, mh12, by decide, rfl, fun h => absurd h (by decide)⟩
theorem mfX12_shows : MF mX12_shows := ⟨(tg7 (List.mem_of_getElem? (i := 110) rfl) rfl), (tg1 (List.mem_of_getElem? (i := 9) rfl) rfl), plainFor_of_name pn12, mh12, by decide, rfl, fun h => absurd h (by decide)⟩
theorem mfX12_truthful : MF mX12_truthful := ⟨(tg7 (List.mem_of_getElem? (i := 114) rfl) rfl), (tg1 (List.mem_of_getElem? (i := 9) rfl) rfl), plainFor_of_name pn12, mh12, by decide, rfl, fun h => absurd h (by decide)⟩
theorem mfX12_keeps : MF mX12_keeps := ⟨(tg7 (List.mem_of_getElem? (i := 122) rfl) rfl), (tg1 (List.mem_of_getElem? (i := 9) rfl) rfl), plainFor_of_name pn12, mh12, by decide, rfl, fun h => absurd h (by decide)⟩
theorem mfX12_isAgain : MF mX12_isAgain := ⟨(tg7 (List.mem_of_getElem? (i := 197) rfl) rfl), (tg1 (List.mem_of_getElem? (i := 9) rfl) rfl), plainFor_of_name pn12, mh12, by decide, rfl, fun h => absurd h (by decide)⟩
theorem mfX12_notes : MF mX12_notes := ⟨(tg7 (List.mem_of_getElem? (i := 130) rfl) rfl), (tg1 (List.mem_of_getElem? (i := 9) rfl) rfl), plainFor_of_name pn12, mh12, by decide, rfl, fun h => absurd h (by decide)⟩
theorem mfX12_dives : MF mX12_dives := ⟨(tg7 (List.mem_of_getElem? (i := 126) rfl) rfl), (tg1 (List.mem_of_getElem? (i := 9) rfl) rfl), plainFor_of_name pn12, mh12, by decide, rfl, fun h => absurd h (by decide)⟩
theorem mfX12_says : MF mX12_says := ⟨(tg7 (List.mem_of_getElem? (i := 143) rfl) rfl), (tg1 (List.mem_of_getElem? (i := 9) rfl) rfl), plainFor_of_name pn12, mh12, by decide, rfl, fun h => absurd h (by decide)⟩
theorem mfX12_whySay : MF mX12_whySay := ⟨(tg7 (List.mem_of_getElem? (i := 138) rfl) rfl), (tg1 (List.mem_of_getElem? (i := 9) rfl) rfl), plainFor_of_name pn12, mh12, by decide, rfl, fun h => absurd h (by decide)⟩
theorem mfX12_whyWipe : MF mX12_whyWipe := ⟨(tg7 (List.mem_of_getElem? (i := 151) rfl) rfl), (tg1 (List.mem_of_getElem? (i := 9) rfl) rfl), plainFor_of_name pn12, mh12, by decide, rfl, fun h => absurd h (by decide)⟩
theorem mfX12_dive : MF mX12_dive := ⟨(tg7 (List.mem_of_getElem? (i := 118) rfl) rfl), (tg1 (List.mem_of_getElem? (i := 9) rfl) rfl), plainFor_of_name pn12, mh12, by decide, rfl, fun h => absurd h (by decide)⟩
theorem mfX12_say : MF mX12_say := ⟨(tg7 (List.mem_of_getElem? (i := 134) rfl) rfl), (tg1 (List.mem_of_getElem? (i := 9) rfl) rfl), plainFor_of_name pn12, mh12, by decide, rfl, fun h => absurd h (by decide)⟩
theorem mfX12_wipe : MF mX12_wipe := ⟨(tg7 (List.mem_of_getElem? (i := 147) rfl) rfl), (tg1 (List.mem_of_getElem? (i := 9) rfl) rfl), plainFor_of_name pn12, mh12, by decide, rfl, fun h => absurd h (by decide)⟩
theorem mfX12_breath : MF mX12_breath := ⟨(tg7 (List.mem_of_getElem? (i := 155) rfl) rfl), (tg1 (List.mem_of_getElem? (i := 9) rfl) rfl), plainFor_of_name pn12, mh12, by decide, rfl, fun h => absurd h (by decide)⟩
theorem mfX12_bold : MF mX12_bold := ⟨(tg7 (List.mem_of_getElem? (i := 159) rfl) rfl), (tg1 (List.mem_of_getElem? (i := 9) rfl) rfl), plainFor_of_name pn12, mh12, by decide, rfl, fun h => absurd h (by decide)⟩
theorem mfX12_undo : MF mX12_undo := ⟨(tg7 (List.mem_of_getElem? (i := 164) rfl) rfl), (tg1 (List.mem_of_getElem? (i := 9) rfl) rfl), plainFor_of_name pn12, mh12, by decide, rfl, fun h => absurd h (by decide)⟩
theorem mfX12_whyNot : MF mX12_whyNot := ⟨(tg7 (List.mem_of_getElem? (i := 182) rfl) rfl), (tg1 (List.mem_of_getElem? (i := 9) rfl) rfl), plainFor_of_name pn12, mh12, by decide, rfl, fun h => absurd h (by decide)⟩
theorem mfX12_does : MF mX12_does := ⟨(tg7 (List.mem_of_getElem? (i := 193) rfl) rfl), (tg1 (List.mem_of_getElem? (i := 9) rfl) rfl), plainFor_of_name pn12, mh12, by decide, rfl, fun h => absurd h (by decide)⟩
theorem mfX12_toldRow : MF mX12_toldRow := ⟨(tg7 (List.mem_of_getElem? (i := 178) rfl) rfl), (tg1 (List.mem_of_getElem? (i := 9) rfl) rfl), plainFor_of_name pn12, mh12, by decide, rfl, fun h => absurd h (by decide)⟩
theorem mfX12_noTray : MF mX12_noTray := ⟨(tg7 (List.mem_of_getElem? (i := 174) rfl) rfl), (tg1 (List.mem_of_getElem? (i := 9) rfl) rfl), plainFor_of_name pn12, mh12, by decide, rfl, fun h => absurd h (by decide)⟩
theorem mfX12_judge : MF mX12_judge := ⟨(tg7 (List.mem_of_getElem? (i := 169) rfl) rfl), (tg1 (List.mem_of_getElem? (i := 9) rfl) rfl), plainFor_of_name pn12, mh12, by decide, rfl, fun h => absurd h (by decide)⟩
theorem mfX12_perform : MF mX12_perform := ⟨(tg7 (List.mem_of_getElem? (i := 201) rfl) rfl), (tg1 (List.mem_of_getElem? (i := 9) rfl) rfl), plainFor_of_name pn12, mh12, by decide, rfl, fun h => absurd h (by decide)⟩
theorem mfX12_draw : MF mX12_draw := ⟨(tg7 (List.mem_of_getElem? (i := 214) rfl) rfl), (tg1 (List.mem_of_getElem? (i := 9) rfl) rfl), plainFor_of_name pn12, mh12, by decide, rfl, fun h => absurd h (by decide)⟩
theorem mfX12_drawn : MF mX12_drawn := ⟨(tg7 (List.mem_of_getElem? (i := 210) rfl) rfl), (tg1 (List.mem_of_getElem? (i := 9) rfl) rfl), plainFor_of_name pn12, mh12, by decide, rfl, fun h => absurd h (by decide)⟩
theorem mfX12_summer : MF mX12_summer := ⟨(tg7 (List.mem_of_getElem? (i := 205) rfl) rfl), (tg1 (List.mem_of_getElem? (i := 9) rfl) rfl), plainFor_of_name pn12, mh12, by decide, rfl, fun h => absurd h (by decide)⟩
theorem mfX12_standOf : MF mX12_standOf := ⟨(tg8 (List.mem_of_getElem? (i := 3) rfl) rfl), (tg1 (List.mem_of_getElem? (i := 9) rfl) rfl), plainFor_of_name pn12, mh12, by decide, rfl, fun h => absurd h (by decide)⟩
theorem mfX12_standNow : MF mX12_standNow := ⟨(tg8 (List.mem_of_getElem? (i := 0) rfl) rfl), (tg1 (List.mem_of_getElem? (i := 9) rfl) rfl), plainFor_of_name pn12, mh12, by decide, rfl, fun h => absurd h (by decide)⟩
theorem mfX12_laysStands : MF mX12_laysStands := ⟨(tg7 (List.mem_of_getElem? (i := 235) rfl) rfl), (tg1 (List.mem_of_getElem? (i := 9) rfl) rfl), plainFor_of_name pn12, mh12, by decide, rfl, fun h => absurd h (by decide)⟩
theorem mfX12_everyGoer : MF mX12_everyGoer := ⟨(tg8 (List.mem_of_getElem? (i := 37) rfl) rfl), (tg1 (List.mem_of_getElem? (i := 9) rfl) rfl), plainFor_of_name pn12, mh12, by decide, rfl, fun h => absurd h (by decide)⟩
theorem mfX12_isGoal : MF mX12_isGoal := ⟨(tg8 (List.mem_of_getElem? (i := 6) rfl) rfl), (tg1 (List.mem_of_getElem? (i := 9) rfl) rfl), plainFor_of_name pn12, mh12, by decide, rfl, fun h => absurd h (by decide)⟩
theorem mfX12_leastBy : MF mX12_leastBy := ⟨(tg8 (List.mem_of_getElem? (i := 10) rfl) rfl), (tg1 (List.mem_of_getElem? (i := 9) rfl) rfl), plainFor_of_name pn12, mh12, by decide, rfl, fun h => absurd h (by decide)⟩
theorem mfX12_laysStill : MF mX12_laysStill := ⟨(tg7 (List.mem_of_getElem? (i := 231) rfl) rfl), (tg1 (List.mem_of_getElem? (i := 9) rfl) rfl), plainFor_of_name pn12, mh12, by decide, rfl, fun h => absurd h (by decide)⟩
theorem mfX12_comes : MF mX12_comes := ⟨(tg7 (List.mem_of_getElem? (i := 227) rfl) rfl), (tg1 (List.mem_of_getElem? (i := 9) rfl) rfl), plainFor_of_name pn12, mh12, by decide, rfl, fun h => absurd h (by decide)⟩
theorem mfX12_goerAt : MF mX12_goerAt := ⟨(tg8 (List.mem_of_getElem? (i := 18) rfl) rfl), (tg1 (List.mem_of_getElem? (i := 9) rfl) rfl), plainFor_of_name pn12, mh12, by decide, rfl, fun h => absurd h (by decide)⟩
theorem mfX12_soonest : MF mX12_soonest := ⟨(tg7 (List.mem_of_getElem? (i := 219) rfl) rfl), (tg1 (List.mem_of_getElem? (i := 9) rfl) rfl), plainFor_of_name pn12, mh12, by decide, rfl, fun h => absurd h (by decide)⟩
theorem mfX12_way : MF mX12_way := ⟨(tg8 (List.mem_of_getElem? (i := 14) rfl) rfl), (tg1 (List.mem_of_getElem? (i := 9) rfl) rfl), plainFor_of_name pn12, mh12, by decide, rfl, fun h => absurd h (by decide)⟩
theorem mfX12_tells : MF mX12_tells := ⟨(tg8 (List.mem_of_getElem? (i := 22) rfl) rfl), (tg1 (List.mem_of_getElem? (i := 9) rfl) rfl), plainFor_of_name pn12, mh12, by decide, rfl, fun h => absurd h (by decide)⟩
theorem mfX12_tellsBy : MF mX12_tellsBy := ⟨(tg8 (List.mem_of_getElem? (i := 26) rfl) rfl), (tg1 (List.mem_of_getElem? (i := 9) rfl) rfl), plainFor_of_name pn12, mh12, by decide, rfl, fun h => absurd h (by decide)⟩
theorem mfX12_beginsMany : MF mX12_beginsMany := ⟨(tg8 (List.mem_of_getElem? (i := 41) rfl) rfl), (tg1 (List.mem_of_getElem? (i := 9) rfl) rfl), plainFor_of_name pn12, mh12, by decide, rfl, fun h => absurd h (by decide)⟩
theorem mfX12_goesMany : MF mX12_goesMany := ⟨(tg8 (List.mem_of_getElem? (i := 45) rfl) rfl), (tg1 (List.mem_of_getElem? (i := 9) rfl) rfl), plainFor_of_name pn12, mh12, by decide, rfl, fun h => absurd h (by decide)⟩
theorem mfX12_manyThere : MF mX12_manyThere := ⟨(tg8 (List.mem_of_getElem? (i := 49) rfl) rfl), (tg1 (List.mem_of_getElem? (i := 9) rfl) rfl), plainFor_of_name pn12, mh12, by decide, rfl, fun h => absurd h (by decide)⟩
theorem mfX12_rows : MF mX12_rows := ⟨(tg8 (List.mem_of_getElem? (i := 30) rfl) rfl), (tg1 (List.mem_of_getElem? (i := 9) rfl) rfl), plainFor_of_name pn12, mh12, by decide, rfl, fun h => absurd h (by decide)⟩
theorem mfX12_canCome : MF mX12_canCome := ⟨(tg8 (List.mem_of_getElem? (i := 57) rfl) rfl), (tg1 (List.mem_of_getElem? (i := 9) rfl) rfl), plainFor_of_name pn12, mh12, by decide, rfl, fun h => absurd h (by decide)⟩
theorem mfX12_needed : MF mX12_needed := ⟨(tg8 (List.mem_of_getElem? (i := 53) rfl) rfl), (tg1 (List.mem_of_getElem? (i := 9) rfl) rfl), plainFor_of_name pn12, mh12, by decide, rfl, fun h => absurd h (by decide)⟩
theorem mfX12_fewest : MF mX12_fewest := ⟨(tg8 (List.mem_of_getElem? (i := 61) rfl) rfl), (tg1 (List.mem_of_getElem? (i := 9) rfl) rfl), plainFor_of_name pn12, mh12, by decide, rfl, fun h => absurd h (by decide)⟩
theorem mfX12_deepest : MF mX12_deepest := ⟨(tg8 (List.mem_of_getElem? (i := 65) rfl) rfl), (tg1 (List.mem_of_getElem? (i := 9) rfl) rfl), plainFor_of_name pn12, mh12, by decide, rfl, fun h => absurd h (by decide)⟩
theorem mfX12_shallowest : MF mX12_shallowest := ⟨(tg8 (List.mem_of_getElem? (i := 69) rfl) rfl), (tg1 (List.mem_of_getElem? (i := 9) rfl) rfl), plainFor_of_name pn12, mh12, by decide, rfl, fun h => absurd h (by decide)⟩
theorem mfX12_numbersTold : MF mX12_numbersTold := ⟨(tg8 (List.mem_of_getElem? (i := 73) rfl) rfl), (tg1 (List.mem_of_getElem? (i := 9) rfl) rfl), plainFor_of_name pn12, mh12, by decide, rfl, fun h => absurd h (by decide)⟩
theorem mfX12_possible : MF mX12_possible := ⟨(tg8 (List.mem_of_getElem? (i := 77) rfl) rfl), (tg1 (List.mem_of_getElem? (i := 9) rfl) rfl), plainFor_of_name pn12, mh12, by decide, rfl, fun h => absurd h (by decide)⟩
theorem mfX12_stands : MF mX12_stands := ⟨(tg8 (List.mem_of_getElem? (i := 81) rfl) rfl), (tg1 (List.mem_of_getElem? (i := 9) rfl) rfl), plainFor_of_name pn12, mh12, by decide, rfl, fun h => absurd h (by decide)⟩
theorem mfX12_noPosted : MF mX12_noPosted := ⟨(tg8 (List.mem_of_getElem? (i := 89) rfl) rfl), (tg1 (List.mem_of_getElem? (i := 9) rfl) rfl), plainFor_of_name pn12, mh12, by decide, rfl, fun h => absurd h (by decide)⟩
theorem mfX12_isSeen : MF mX12_isSeen := ⟨(tg8 (List.mem_of_getElem? (i := 94) rfl) rfl), (tg1 (List.mem_of_getElem? (i := 9) rfl) rfl), plainFor_of_name pn12, mh12, by decide, rfl, fun h => absurd h (by decide)⟩
theorem mfX12_laysSeen : MF mX12_laysSeen := ⟨(tg8 (List.mem_of_getElem? (i := 102) rfl) rfl), (tg1 (List.mem_of_getElem? (i := 9) rfl) rfl), plainFor_of_name pn12, mh12, by decide, rfl, fun h => absurd h (by decide)⟩
theorem mfX12_goesSeen : MF mX12_goesSeen := ⟨(tg8 (List.mem_of_getElem? (i := 106) rfl) rfl), (tg1 (List.mem_of_getElem? (i := 9) rfl) rfl), plainFor_of_name pn12, mh12, by decide, rfl, fun h => absurd h (by decide)⟩
theorem mfX12_posted : MF mX12_posted := ⟨(tg8 (List.mem_of_getElem? (i := 85) rfl) rfl), (tg1 (List.mem_of_getElem? (i := 9) rfl) rfl), plainFor_of_name pn12, mh12, by decide, rfl, fun h => absurd h (by decide)⟩
theorem mfX12_whoPosted : MF mX12_whoPosted := ⟨(tg8 (List.mem_of_getElem? (i := 98) rfl) rfl), (tg1 (List.mem_of_getElem? (i := 9) rfl) rfl), plainFor_of_name pn12, mh12, by decide, rfl, fun h => absurd h (by decide)⟩
theorem mfX12_suspects : MF mX12_suspects := ⟨(tg8 (List.mem_of_getElem? (i := 110) rfl) rfl), (tg1 (List.mem_of_getElem? (i := 9) rfl) rfl), plainFor_of_name pn12, mh12, by decide, rfl, fun h => absurd h (by decide)⟩
theorem mfX12_noAlone : MF mX12_noAlone := ⟨(tg8 (List.mem_of_getElem? (i := 118) rfl) rfl), (tg1 (List.mem_of_getElem? (i := 9) rfl) rfl), plainFor_of_name pn12, mh12, by decide, rfl, fun h => absurd h (by decide)⟩
theorem mfX12_isAlone : MF mX12_isAlone := ⟨(tg8 (List.mem_of_getElem? (i := 126) rfl) rfl), (tg1 (List.mem_of_getElem? (i := 9) rfl) rfl), plainFor_of_name pn12, mh12, by decide, rfl, fun h => absurd h (by decide)⟩
theorem mfX12_laysBolds : MF mX12_laysBolds := ⟨(tg8 (List.mem_of_getElem? (i := 122) rfl) rfl), (tg1 (List.mem_of_getElem? (i := 9) rfl) rfl), plainFor_of_name pn12, mh12, by decide, rfl, fun h => absurd h (by decide)⟩
theorem mfX12_bolds : MF mX12_bolds := ⟨(tg8 (List.mem_of_getElem? (i := 114) rfl) rfl), (tg1 (List.mem_of_getElem? (i := 9) rfl) rfl), plainFor_of_name pn12, mh12, by decide, rfl, fun h => absurd h (by decide)⟩
theorem mfX12_nexts : MF mX12_nexts := ⟨(tg8 (List.mem_of_getElem? (i := 130) rfl) rfl), (tg1 (List.mem_of_getElem? (i := 9) rfl) rfl), plainFor_of_name pn12, mh12, by decide, rfl, fun h => absurd h (by decide)⟩
theorem mfX12_oneTurn : MF mX12_oneTurn := ⟨(tg8 (List.mem_of_getElem? (i := 146) rfl) rfl), (tg1 (List.mem_of_getElem? (i := 9) rfl) rfl), plainFor_of_name pn12, mh12, by decide, rfl, fun h => absurd h (by decide)⟩
theorem mfX12_otherTurn : MF mX12_otherTurn := ⟨(tg8 (List.mem_of_getElem? (i := 150) rfl) rfl), (tg1 (List.mem_of_getElem? (i := 9) rfl) rfl), plainFor_of_name pn12, mh12, by decide, rfl, fun h => absurd h (by decide)⟩
theorem mfX12_laysForced : MF mX12_laysForced := ⟨(tg8 (List.mem_of_getElem? (i := 142) rfl) rfl), (tg1 (List.mem_of_getElem? (i := 9) rfl) rfl), plainFor_of_name pn12, mh12, by decide, rfl, fun h => absurd h (by decide)⟩
theorem mfX12_noForce : MF mX12_noForce := ⟨(tg8 (List.mem_of_getElem? (i := 138) rfl) rfl), (tg1 (List.mem_of_getElem? (i := 9) rfl) rfl), plainFor_of_name pn12, mh12, by decide, rfl, fun h => absurd h (by decide)⟩
theorem mfX12_forces : MF mX12_forces := ⟨(tg8 (List.mem_of_getElem? (i := 134) rfl) rfl), (tg1 (List.mem_of_getElem? (i := 9) rfl) rfl), plainFor_of_name pn12, mh12, by decide, rfl, fun h => absurd h (by decide)⟩
theorem mfX12_best : MF mX12_best := ⟨(tg8 (List.mem_of_getElem? (i := 154) rfl) rfl), (tg1 (List.mem_of_getElem? (i := 9) rfl) rfl), plainFor_of_name pn12, mh12, by decide, rfl, fun h => absurd h (by decide)⟩
theorem mfX12_power : MF mX12_power := ⟨(tg8 (List.mem_of_getElem? (i := 158) rfl) rfl), (tg1 (List.mem_of_getElem? (i := 9) rfl) rfl), plainFor_of_name pn12, mh12, by decide, rfl, fun h => absurd h (by decide)⟩
theorem mfX12_oddsAll : MF mX12_oddsAll := ⟨(tg8 (List.mem_of_getElem? (i := 171) rfl) rfl), (tg1 (List.mem_of_getElem? (i := 9) rfl) rfl), plainFor_of_name pn12, mh12, by decide, rfl, fun h => absurd h (by decide)⟩
theorem mfX12_laysLikely : MF mX12_laysLikely := ⟨(tg8 (List.mem_of_getElem? (i := 167) rfl) rfl), (tg1 (List.mem_of_getElem? (i := 9) rfl) rfl), plainFor_of_name pn12, mh12, by decide, rfl, fun h => absurd h (by decide)⟩
theorem mfX12_common : MF mX12_common := ⟨(tg8 (List.mem_of_getElem? (i := 174) rfl) rfl), (tg1 (List.mem_of_getElem? (i := 9) rfl) rfl), plainFor_of_name pn12, mh12, by decide, rfl, fun h => absurd h (by decide)⟩
theorem mfX12_chance : MF mX12_chance := ⟨(tg8 (List.mem_of_getElem? (i := 162) rfl) rfl), (tg1 (List.mem_of_getElem? (i := 9) rfl) rfl), plainFor_of_name pn12, mh12, by decide, rfl, fun h => absurd h (by decide)⟩
theorem mfX12_likeliest : MF mX12_likeliest := ⟨(tg8 (List.mem_of_getElem? (i := 178) rfl) rfl), (tg1 (List.mem_of_getElem? (i := 9) rfl) rfl), plainFor_of_name pn12, mh12, by decide, rfl, fun h => absurd h (by decide)⟩
theorem mfX12_cut : MF mX12_cut := ⟨(tg8 (List.mem_of_getElem? (i := 190) rfl) rfl), (tg1 (List.mem_of_getElem? (i := 9) rfl) rfl), plainFor_of_name pn12, mh12, by decide, rfl, fun h => absurd h (by decide)⟩
theorem mfX12_numbers : MF mX12_numbers := ⟨(tg8 (List.mem_of_getElem? (i := 182) rfl) rfl), (tg1 (List.mem_of_getElem? (i := 9) rfl) rfl), plainFor_of_name pn12, mh12, by decide, rfl, fun h => absurd h (by decide)⟩
theorem mfX12_write : MF mX12_write := ⟨(tg8 (List.mem_of_getElem? (i := 186) rfl) rfl), (tg1 (List.mem_of_getElem? (i := 9) rfl) rfl), plainFor_of_name pn12, mh12, by decide, rfl, fun h => absurd h (by decide)⟩
theorem mfX12_lists : MF mX12_lists := ⟨(tg8 (List.mem_of_getElem? (i := 194) rfl) rfl), (tg1 (List.mem_of_getElem? (i := 9) rfl) rfl), plainFor_of_name pn12, mh12, by decide, rfl, fun h => absurd h (by decide)⟩
theorem mfX12_image : MF mX12_image := ⟨(tg8 (List.mem_of_getElem? (i := 198) rfl) rfl), (tg1 (List.mem_of_getElem? (i := 9) rfl) rfl), plainFor_of_name pn12, mh12, by decide, rfl, fun h => absurd h (by decide)⟩
theorem mfX12_restore : MF mX12_restore := ⟨(tg8 (List.mem_of_getElem? (i := 202) rfl) rfl), (tg1 (List.mem_of_getElem? (i := 9) rfl) rfl), plainFor_of_name pn12, mh12, by decide, rfl, fun h => absurd h (by decide)⟩
theorem mfX12_deepestThing : MF mX12_deepestThing := ⟨(tg8 (List.mem_of_getElem? (i := 210) rfl) rfl), (tg1 (List.mem_of_getElem? (i := 9) rfl) rfl), plainFor_of_name pn12, mh12, by decide, rfl, fun h => absurd h (by decide)⟩
theorem mfX12_count : MF mX12_count := ⟨(tg8 (List.mem_of_getElem? (i := 206) rfl) rfl), (tg1 (List.mem_of_getElem? (i := 9) rfl) rfl), plainFor_of_name pn12, mh12, by decide, rfl, fun h => absurd h (by decide)⟩
theorem mfJ6_bitCount_0f7a4 : MF mJ6_bitCount_0f7a4 := ⟨(tg3 (List.mem_of_getElem? (i := 158) rfl) rfl), (tg1 (List.mem_of_getElem? (i := 18) rfl) rfl), plainFor_of_name pn16, mh16, by decide, rfl, fun h => absurd h (by decide)⟩
theorem mfJ13_bitCount_95d88 : MF mJ13_bitCount_95d88 := ⟨(tg5 (List.mem_of_getElem? (i := 79) rfl) rfl), (tg1 (List.mem_of_getElem? (i := 22) rfl) rfl), plainFor_of_name pn17, mh17, by decide, rfl, fun h => absurd h (by decide)⟩
theorem mfJ9_max_7cf53 : MF mJ9_max_7cf53 := ⟨(tg2 (List.mem_of_getElem? (i := 158) rfl) rfl), (tg1 (List.mem_of_getElem? (i := 12) rfl) rfl), by decide +kernel, mh18, by decide, rfl, fun h => absurd h (by decide)⟩
theorem mfJ9_min_7cf53 : MF mJ9_min_7cf53 := ⟨(tg2 (List.mem_of_getElem? (i := 161) rfl) rfl), (tg1 (List.mem_of_getElem? (i := 12) rfl) rfl), by decide +kernel, mh18, by decide, rfl, fun h => absurd h (by decide)⟩
theorem mfJ0_length_8abf5 : MF mJ0_length_8abf5 := ⟨(tg2 (List.mem_of_getElem? (i := 145) rfl) rfl), (tg1 (List.mem_of_getElem? (i := 10) rfl) rfl), plainFor_of_name pn14, mh14, by decide, rfl, fun h => absurd h (by decide)⟩
theorem mfJ0_charAt_5068e : MF mJ0_charAt_5068e := ⟨(tg2 (List.mem_of_getElem? (i := 227) rfl) rfl), (tg1 (List.mem_of_getElem? (i := 10) rfl) rfl), plainFor_of_name pn14, mh14, by decide, rfl, fun h => absurd h (by decide)⟩
theorem mfJ0_indexOf_0f7a4 : MF mJ0_indexOf_0f7a4 := ⟨(tg2 (List.mem_of_getElem? (i := 131) rfl) rfl), (tg1 (List.mem_of_getElem? (i := 10) rfl) rfl), plainFor_of_name pn14, mh14, by decide, rfl, fun h => absurd h (by decide)⟩
theorem mfJ0_indexOf_7cf53 : MF mJ0_indexOf_7cf53 := ⟨(tg2 (List.mem_of_getElem? (i := 135) rfl) rfl), (tg1 (List.mem_of_getElem? (i := 10) rfl) rfl), plainFor_of_name pn14, mh14, by decide, rfl, fun h => absurd h (by decide)⟩
theorem mfJ0_coder_7d493 : MF mJ0_coder_7d493 := ⟨(tg2 (List.mem_of_getElem? (i := 149) rfl) rfl), (tg1 (List.mem_of_getElem? (i := 10) rfl) rfl), plainFor_of_name pn14, mh14, by decide, rfl, fun h => absurd h (by decide)⟩
theorem mfJ0_isLatin1_aae02 : MF mJ0_isLatin1_aae02 := ⟨(tg2 (List.mem_of_getElem? (i := 139) rfl) rfl), (tg1 (List.mem_of_getElem? (i := 10) rfl) rfl), plainFor_of_name pn14, mh14, by decide, rfl, fun h => absurd h (by decide)⟩
theorem mfJ0_checkIndex_df160 : MF mJ0_checkIndex_df160 := ⟨(tg2 (List.mem_of_getElem? (i := 233) rfl) rfl), (tg1 (List.mem_of_getElem? (i := 10) rfl) rfl), plainFor_of_name pn14, mh14, by decide, rfl, fun h => absurd h (by decide)⟩
theorem mfJ1_charAt_3b067 : MF mJ1_charAt_3b067 := ⟨(tg2 (List.mem_of_getElem? (i := 230) rfl) rfl), (tg1 (List.mem_of_getElem? (i := 11) rfl) rfl), plainFor_of_name pn15, mh15, by decide, rfl, fun h => absurd h (by decide)⟩
theorem mfJ1_canEncode_9a6ad : MF mJ1_canEncode_9a6ad := ⟨(tg2 (List.mem_of_getElem? (i := 155) rfl) rfl), (tg1 (List.mem_of_getElem? (i := 11) rfl) rfl), plainFor_of_name pn15, mh15, by decide, rfl, fun h => absurd h (by decide)⟩
theorem mfJ1_indexOf_4cfef : MF mJ1_indexOf_4cfef := ⟨(tg2 (List.mem_of_getElem? (i := 152) rfl) rfl), (tg1 (List.mem_of_getElem? (i := 11) rfl) rfl), plainFor_of_name pn15, mh15, by decide, rfl, fun h => absurd h (by decide)⟩
theorem mfJ1_indexOfChar_4cfef : MF mJ1_indexOfChar_4cfef := ⟨(tg2 (List.mem_of_getElem? (i := 164) rfl) rfl), (tg1 (List.mem_of_getElem? (i := 11) rfl) rfl), plainFor_of_name pn15, mh15, by decide, rfl, fun h => absurd h (by decide)⟩
theorem mfJ7_fill_d0a16 : MF mJ7_fill_d0a16 := ⟨(tg6 (List.mem_of_getElem? (i := 31) rfl) rfl), (tg1 (List.mem_of_getElem? (i := 16) rfl) rfl), plainFor_of_name pn19, mh19, by decide, rfl, fun h => absurd h (by decide)⟩
theorem mfJ7_fill_53178 : MF mJ7_fill_53178 := ⟨(tg4 (List.mem_of_getElem? (i := 78) rfl) rfl), (tg1 (List.mem_of_getElem? (i := 16) rfl) rfl), plainFor_of_name pn19, mh19, by decide, rfl, fun h => absurd h (by decide)⟩
theorem mfJ7_copyOf_59c91 : MF mJ7_copyOf_59c91 := ⟨(tg3 (List.mem_of_getElem? (i := 107) rfl) rfl), (tg1 (List.mem_of_getElem? (i := 16) rfl) rfl), plainFor_of_name pn19, mh19, by decide, rfl, fun h => absurd h (by decide)⟩
theorem mfJ3_checkIndex_8e157 : MF mJ3_checkIndex_8e157 := ⟨(tg2 (List.mem_of_getElem? (i := 236) rfl) rfl), (tg1 (List.mem_of_getElem? (i := 14) rfl) rfl), plainFor_of_name pn20, mh20, by decide, rfl, fun h => absurd h (by decide)⟩
theorem mfJ3_checkFromToIndex_8c36e : MF mJ3_checkFromToIndex_8c36e := ⟨(tg2 (List.mem_of_getElem? (i := 187) rfl) rfl), (tg1 (List.mem_of_getElem? (i := 14) rfl) rfl), plainFor_of_name pn20, mh20, by decide, rfl, fun h => absurd h (by decide)⟩
theorem pmX0_init : prm mX0_init = some 0 := by decide +kernel
theorem pmX0_look : prm mX0_look = some 5 := by decide +kernel
theorem pmX0_worth : prm mX0_worth = some 1 := by decide +kernel
theorem pmX0_push : prm mX0_push = some 1 := by decide +kernel
theorem pmX0_pop : prm mX0_pop = some 0 := by decide +kernel
theorem pmX0_joined : prm mX0_joined = some 3 := by decide +kernel
theorem pmX0_kept : prm mX0_kept = some 3 := by decide +kernel
theorem pmX1_init : prm mX1_init = some 1 := by decide +kernel
theorem pmX1_begin : prm mX1_begin = some 2 := by decide +kernel
theorem pmX1_play : prm mX1_play = some 1 := by decide +kernel
theorem pmX1_setOut : prm mX1_setOut = some 1 := by decide +kernel
theorem pmX1_reachedBy : prm mX1_reachedBy = some 4 := by decide +kernel
theorem pmX1_reachedFrom : prm mX1_reachedFrom = some 2 := by decide +kernel
theorem pmX1_firstBest : prm mX1_firstBest = some 1 := by decide +kernel
theorem pmX2_init : prm mX2_init = some 0 := by decide +kernel
theorem pmX3_init : prm mX3_init = some 0 := by decide +kernel
theorem pmX3_add : prm mX3_add = some 1 := by decide +kernel
theorem pmX3_size : prm mX3_size = some 0 := by decide +kernel
theorem pmX4_init : prm mX4_init = some 0 := by decide +kernel
theorem pmX4_mark : prm mX4_mark = some 1 := by decide +kernel
theorem pmX4_keep : prm mX4_keep = some 0 := by decide +kernel
theorem pmX4_bringBack : prm mX4_bringBack = some 2 := by decide +kernel
theorem pmX4_forget : prm mX4_forget = some 0 := by decide +kernel
theorem pmX5_init : prm mX5_init = some 0 := by decide +kernel
theorem pmX5_allOdds : prm mX5_allOdds = some 0 := by decide +kernel
theorem pmX5_greatestDepth : prm mX5_greatestDepth = some 0 := by decide +kernel
theorem pmX6_init : prm mX6_init = some 0 := by decide +kernel
theorem pmX6_add : prm mX6_add = some 1 := by decide +kernel
theorem pmX6_read : prm mX6_read = some 2 := by decide +kernel
theorem pmX6_endLine : prm mX6_endLine = some 0 := by decide +kernel
theorem pmX6_readThing : prm mX6_readThing = some 0 := by decide +kernel
theorem pmX6_tookPart : prm mX6_tookPart = some 1 := by decide +kernel
theorem pmX6_readGoer : prm mX6_readGoer = some 0 := by decide +kernel
theorem pmX6_tookFlag : prm mX6_tookFlag = some 1 := by decide +kernel
theorem pmX6_readLaw : prm mX6_readLaw = some 0 := by decide +kernel
theorem pmX6_readSum : prm mX6_readSum = some 1 := by decide +kernel
theorem pmX6_readTerm : prm mX6_readTerm = some 1 := by decide +kernel
theorem pmX6_readAtom : prm mX6_readAtom = some 1 := by decide +kernel
theorem pmX6_readChoice : prm mX6_readChoice = some 1 := by decide +kernel
theorem pmX6_readTruth : prm mX6_readTruth = some 1 := by decide +kernel
theorem pmX6_readBoth : prm mX6_readBoth = some 1 := by decide +kernel
theorem pmX6_readUnit : prm mX6_readUnit = some 1 := by decide +kernel
theorem pmX6_readComparison : prm mX6_readComparison = some 1 := by decide +kernel
theorem pmX6_opens : prm mX6_opens = some 1 := by decide +kernel
theorem pmX6_knownWord : prm mX6_knownWord = some 0 := by decide +kernel
theorem pmX6_emit : prm mX6_emit = some 2 := by decide +kernel
theorem pmX6_isSign : prm mX6_isSign = some 1 := by decide +kernel
theorem pmX6_isWord : prm mX6_isWord = some 1 := by decide +kernel
theorem pmX6_takeSign : prm mX6_takeSign = some 1 := by decide +kernel
theorem pmX6_takeWord : prm mX6_takeWord = some 1 := by decide +kernel
theorem pmX6_takeNumber : prm mX6_takeNumber = some 1 := by decide +kernel
theorem pmX6_fail : prm mX6_fail = some 1 := by decide +kernel
theorem pmX6_advance : prm mX6_advance = some 0 := by decide +kernel
theorem pmX6_endWord : prm mX6_endWord = some 0 := by decide +kernel
theorem pmX6_endNumber : prm mX6_endNumber = some 0 := by decide +kernel
theorem pmX6_isBlank : prm mX6_isBlank = some 1 := by decide +kernel
theorem pmX6_isLetter : prm mX6_isLetter = some 1 := by decide +kernel
theorem pmX6_isDigit : prm mX6_isDigit = some 1 := by decide +kernel
theorem pmX7_init : prm mX7_init = some 2 := by decide +kernel
theorem pmX7_begin : prm mX7_begin = some 2 := by decide +kernel
theorem pmX7_forgetGoer : prm mX7_forgetGoer = some 1 := by decide +kernel
theorem pmX7_explore : prm mX7_explore = some 1 := by decide +kernel
theorem pmX7_find : prm mX7_find = some 3 := by decide +kernel
theorem pmX7_after : prm mX7_after = some 2 := by decide +kernel
theorem pmX7_placeAfter : prm mX7_placeAfter = some 2 := by decide +kernel
theorem pmX7_boardAt : prm mX7_boardAt = some 1 := by decide +kernel
theorem pmX7_thingsAt : prm mX7_thingsAt = some 1 := by decide +kernel
theorem pmX7_placeOfThing : prm mX7_placeOfThing = some 1 := by decide +kernel
theorem pmX7_placeOfBoard : prm mX7_placeOfBoard = some 1 := by decide +kernel
theorem pmX7_divesTo : prm mX7_divesTo = some 1 := by decide +kernel
theorem pmX7_goerTo : prm mX7_goerTo = some 2 := by decide +kernel
theorem pmX7_canBe : prm mX7_canBe = some 1 := by decide +kernel
theorem pmX8_init : prm mX8_init = some 0 := by decide +kernel
theorem pmX8_begin : prm mX8_begin = some 1 := by decide +kernel
theorem pmX8_become : prm mX8_become = some 1 := by decide +kernel
theorem pmX9_init : prm mX9_init = some 1 := by decide +kernel
theorem pmX9_seeNothing : prm mX9_seeNothing = some 0 := by decide +kernel
theorem pmX9_see : prm mX9_see = some 1 := by decide +kernel
theorem pmX9_fits : prm mX9_fits = some 2 := by decide +kernel
theorem pmX9_spreadAlike : prm mX9_spreadAlike = some 1 := by decide +kernel
theorem pmX9_spreadByOdds : prm mX9_spreadByOdds = some 1 := by decide +kernel
theorem pmX9_spread : prm mX9_spread = some 1 := by decide +kernel
theorem pmX9_clear : prm mX9_clear = some 1 := by decide +kernel
theorem pmX9_spreadFrom : prm mX9_spreadFrom = some 2 := by decide +kernel
theorem pmX9_totalOfAll : prm mX9_totalOfAll = some 0 := by decide +kernel
theorem pmX9_totalWith : prm mX9_totalWith = some 1 := by decide +kernel
theorem pmX9_markBack : prm mX9_markBack = some 1 := by decide +kernel
theorem pmX9_leads : prm mX9_leads = some 3 := by decide +kernel
theorem pmX9_firstOf : prm mX9_firstOf = some 2 := by decide +kernel
theorem pmX9_firstGoer : prm mX9_firstGoer = some 1 := by decide +kernel
theorem pmX9_goersOfAny : prm mX9_goersOfAny = some 1 := by decide +kernel
theorem pmX9_goersFrom : prm mX9_goersFrom = some 2 := by decide +kernel
theorem pmX10_init : prm mX10_init = some 0 := by decide +kernel
theorem pmX10_begin : prm mX10_begin = some 2 := by decide +kernel
theorem pmX10_put : prm mX10_put = some 2 := by decide +kernel
theorem pmX11_init : prm mX11_init = some 0 := by decide +kernel
theorem pmX11_feed : prm mX11_feed = some 5 := by decide +kernel
theorem pmX11_pool : prm mX11_pool = some 1 := by decide +kernel
theorem pmX11_fault : prm mX11_fault = some 1 := by decide +kernel
theorem pmX11_thing : prm mX11_thing = some 2 := by decide +kernel
theorem pmX11_goer : prm mX11_goer = some 2 := by decide +kernel
theorem pmX11_shows : prm mX11_shows = some 1 := by decide +kernel
theorem pmX11_truthful : prm mX11_truthful = some 0 := by decide +kernel
theorem pmX11_dive : prm mX11_dive = some 1 := by decide +kernel
theorem pmX11_say : prm mX11_say = some 2 := by decide +kernel
theorem pmX11_wipe : prm mX11_wipe = some 1 := by decide +kernel
theorem pmX11_breath : prm mX11_breath = some 2 := by decide +kernel
theorem pmX11_bold : prm mX11_bold = some 2 := by decide +kernel
theorem pmX11_undo : prm mX11_undo = some 1 := by decide +kernel
theorem pmX11_judge : prm mX11_judge = some 2 := by decide +kernel
theorem pmX11_perform : prm mX11_perform = some 1 := by decide +kernel
theorem pmX11_summer : prm mX11_summer = some 2 := by decide +kernel
theorem pmX11_soonest : prm mX11_soonest = some 2 := by decide +kernel
theorem pmX11_way : prm mX11_way = some 3 := by decide +kernel
theorem pmX11_tells : prm mX11_tells = some 2 := by decide +kernel
theorem pmX11_tellsBy : prm mX11_tellsBy = some 3 := by decide +kernel
theorem pmX11_rows : prm mX11_rows = some 2 := by decide +kernel
theorem pmX11_needed : prm mX11_needed = some 1 := by decide +kernel
theorem pmX11_fewest : prm mX11_fewest = some 1 := by decide +kernel
theorem pmX11_deepest : prm mX11_deepest = some 1 := by decide +kernel
theorem pmX11_shallowest : prm mX11_shallowest = some 1 := by decide +kernel
theorem pmX11_numbersTold : prm mX11_numbersTold = some 1 := by decide +kernel
theorem pmX11_possible : prm mX11_possible = some 1 := by decide +kernel
theorem pmX11_stands : prm mX11_stands = some 1 := by decide +kernel
theorem pmX11_posted : prm mX11_posted = some 1 := by decide +kernel
theorem pmX11_whoPosted : prm mX11_whoPosted = some 2 := by decide +kernel
theorem pmX11_suspects : prm mX11_suspects = some 1 := by decide +kernel
theorem pmX11_bolds : prm mX11_bolds = some 2 := by decide +kernel
theorem pmX11_nexts : prm mX11_nexts = some 2 := by decide +kernel
theorem pmX11_forces : prm mX11_forces = some 3 := by decide +kernel
theorem pmX11_best : prm mX11_best = some 3 := by decide +kernel
theorem pmX11_power : prm mX11_power = some 2 := by decide +kernel
theorem pmX11_chance : prm mX11_chance = some 3 := by decide +kernel
theorem pmX11_likeliest : prm mX11_likeliest = some 1 := by decide +kernel
theorem pmX11_numbers : prm mX11_numbers = some 3 := by decide +kernel
theorem pmX11_write : prm mX11_write = some 3 := by decide +kernel
theorem pmX11_lists : prm mX11_lists = some 3 := by decide +kernel
theorem pmX11_image : prm mX11_image = some 1 := by decide +kernel
theorem pmX11_restore : prm mX11_restore = some 1 := by decide +kernel
theorem pmX11_count : prm mX11_count = some 1 := by decide +kernel
theorem pmX11_isThing : prm mX11_isThing = some 1 := by decide +kernel
theorem pmX11_isGoer : prm mX11_isGoer = some 1 := by decide +kernel
theorem pmX11_isTray : prm mX11_isTray = some 1 := by decide +kernel
theorem pmX11_isSet : prm mX11_isSet = some 1 := by decide +kernel
theorem pmX11_allGoers : prm mX11_allGoers = some 0 := by decide +kernel
theorem pmX11_comingRefused : prm mX11_comingRefused = some 2 := by decide +kernel
theorem pmX11_forcingRefused : prm mX11_forcingRefused = some 3 := by decide +kernel
theorem pmX11_postedRefused : prm mX11_postedRefused = some 1 := by decide +kernel
theorem pmX11_aloneRefused : prm mX11_aloneRefused = some 2 := by decide +kernel
theorem pmX11_act : prm mX11_act = some 2 := by decide +kernel
theorem pmX11_actAll : prm mX11_actAll = some 2 := by decide +kernel
theorem pmX11_actDive : prm mX11_actDive = some 2 := by decide +kernel
theorem pmX11_actSay : prm mX11_actSay = some 3 := by decide +kernel
theorem pmX11_actWipe : prm mX11_actWipe = some 2 := by decide +kernel
theorem pmX11_actBold : prm mX11_actBold = some 3 := by decide +kernel
theorem pmX11_wentAlone : prm mX11_wentAlone = some 3 := by decide +kernel
theorem pmX11_ready : prm mX11_ready = some 0 := by decide +kernel
theorem pmX11_explored : prm mX11_explored = some 1 := by decide +kernel
theorem pmX11_tallyOfAll : prm mX11_tallyOfAll = some 0 := by decide +kernel
theorem pmX11_gameOf : prm mX11_gameOf = some 2 := by decide +kernel
theorem pmX11_has : prm mX11_has = some 2 := by decide +kernel
theorem pmX11_stateOf : prm mX11_stateOf = some 2 := by decide +kernel
theorem pmX11_boardOf : prm mX11_boardOf = some 1 := by decide +kernel
theorem pmX11_thingsOf : prm mX11_thingsOf = some 1 := by decide +kernel
theorem pmX11_drawnNext : prm mX11_drawnNext = some 1 := by decide +kernel
theorem pmX11_drawn : prm mX11_drawn = some 1 := by decide +kernel
theorem pmX11_greatestShared : prm mX11_greatestShared = some 2 := by decide +kernel
theorem pmX12_within : prm mX12_within = some 3 := by decide +kernel
theorem pmX12_init : prm mX12_init = some 0 := by decide +kernel
theorem pmX12_plain : prm mX12_plain = some 1 := by decide +kernel
theorem pmX12_feed : prm mX12_feed = some 5 := by decide +kernel
theorem pmX12_see : prm mX12_see = some 1 := by decide +kernel
theorem pmX12_isSmall : prm mX12_isSmall = some 1 := by decide +kernel
theorem pmX12_isDigit : prm mX12_isDigit = some 1 := by decide +kernel
theorem pmX12_keyAt : prm mX12_keyAt = some 0 := by decide +kernel
theorem pmX12_next : prm mX12_next = some 0 := by decide +kernel
theorem pmX12_fails : prm mX12_fails = some 1 := by decide +kernel
theorem pmX12_is : prm mX12_is = some 1 := by decide +kernel
theorem pmX12_eats : prm mX12_eats = some 1 := by decide +kernel
theorem pmX12_takes : prm mX12_takes = some 2 := by decide +kernel
theorem pmX12_isIn : prm mX12_isIn = some 2 := by decide +kernel
theorem pmX12_wordOf : prm mX12_wordOf = some 1 := by decide +kernel
theorem pmX12_codes : prm mX12_codes = some 1 := by decide +kernel
theorem pmX12_goesIn : prm mX12_goesIn = some 1 := by decide +kernel
theorem pmX12_readAtom : prm mX12_readAtom = some 1 := by decide +kernel
theorem pmX12_readIf : prm mX12_readIf = some 1 := by decide +kernel
theorem pmX12_readTerm : prm mX12_readTerm = some 1 := by decide +kernel
theorem pmX12_readSum : prm mX12_readSum = some 1 := by decide +kernel
theorem pmX12_readUnit : prm mX12_readUnit = some 1 := by decide +kernel
theorem pmX12_readBoth : prm mX12_readBoth = some 1 := by decide +kernel
theorem pmX12_readTruth : prm mX12_readTruth = some 1 := by decide +kernel
theorem pmX12_readPart : prm mX12_readPart = some 1 := by decide +kernel
theorem pmX12_readThing : prm mX12_readThing = some 0 := by decide +kernel
theorem pmX12_readGoer : prm mX12_readGoer = some 0 := by decide +kernel
theorem pmX12_readLaw : prm mX12_readLaw = some 1 := by decide +kernel
theorem pmX12_readLine : prm mX12_readLine = some 0 := by decide +kernel
theorem pmX12_ends : prm mX12_ends = some 0 := by decide +kernel
theorem pmX12_pool : prm mX12_pool = some 1 := by decide +kernel
theorem pmX12_fault : prm mX12_fault = some 1 := by decide +kernel
theorem pmX12_isThing : prm mX12_isThing = some 1 := by decide +kernel
theorem pmX12_isGoer : prm mX12_isGoer = some 1 := by decide +kernel
theorem pmX12_isSet : prm mX12_isSet = some 1 := by decide +kernel
theorem pmX12_bitsOf : prm mX12_bitsOf = some 1 := by decide +kernel
theorem pmX12_between : prm mX12_between = some 3 := by decide +kernel
theorem pmX12_reckons : prm mX12_reckons = some 1 := by decide +kernel
theorem pmX12_laysDive : prm mX12_laysDive = some 3 := by decide +kernel
theorem pmX12_laysNow : prm mX12_laysNow = some 1 := by decide +kernel
theorem pmX12_thing : prm mX12_thing = some 2 := by decide +kernel
theorem pmX12_goer : prm mX12_goer = some 2 := by decide +kernel
theorem pmX12_shows : prm mX12_shows = some 1 := by decide +kernel
theorem pmX12_truthful : prm mX12_truthful = some 0 := by decide +kernel
theorem pmX12_keeps : prm mX12_keeps = some 0 := by decide +kernel
theorem pmX12_isAgain : prm mX12_isAgain = some 0 := by decide +kernel
theorem pmX12_notes : prm mX12_notes = some 0 := by decide +kernel
theorem pmX12_dives : prm mX12_dives = some 1 := by decide +kernel
theorem pmX12_says : prm mX12_says = some 2 := by decide +kernel
theorem pmX12_whySay : prm mX12_whySay = some 2 := by decide +kernel
theorem pmX12_whyWipe : prm mX12_whyWipe = some 1 := by decide +kernel
theorem pmX12_dive : prm mX12_dive = some 1 := by decide +kernel
theorem pmX12_say : prm mX12_say = some 2 := by decide +kernel
theorem pmX12_wipe : prm mX12_wipe = some 1 := by decide +kernel
theorem pmX12_breath : prm mX12_breath = some 2 := by decide +kernel
theorem pmX12_bold : prm mX12_bold = some 2 := by decide +kernel
theorem pmX12_undo : prm mX12_undo = some 1 := by decide +kernel
theorem pmX12_whyNot : prm mX12_whyNot = some 1 := by decide +kernel
theorem pmX12_does : prm mX12_does = some 1 := by decide +kernel
theorem pmX12_toldRow : prm mX12_toldRow = some 1 := by decide +kernel
theorem pmX12_noTray : prm mX12_noTray = some 1 := by decide +kernel
theorem pmX12_judge : prm mX12_judge = some 2 := by decide +kernel
theorem pmX12_perform : prm mX12_perform = some 1 := by decide +kernel
theorem pmX12_draw : prm mX12_draw = some 1 := by decide +kernel
theorem pmX12_drawn : prm mX12_drawn = some 0 := by decide +kernel
theorem pmX12_summer : prm mX12_summer = some 2 := by decide +kernel
theorem pmX12_standOf : prm mX12_standOf = some 2 := by decide +kernel
theorem pmX12_standNow : prm mX12_standNow = some 0 := by decide +kernel
theorem pmX12_laysStands : prm mX12_laysStands = some 1 := by decide +kernel
theorem pmX12_everyGoer : prm mX12_everyGoer = some 0 := by decide +kernel
theorem pmX12_isGoal : prm mX12_isGoal = some 2 := by decide +kernel
theorem pmX12_leastBy : prm mX12_leastBy = some 2 := by decide +kernel
theorem pmX12_laysStill : prm mX12_laysStill = some 2 := by decide +kernel
theorem pmX12_comes : prm mX12_comes = some 2 := by decide +kernel
theorem pmX12_goerAt : prm mX12_goerAt = some 3 := by decide +kernel
theorem pmX12_soonest : prm mX12_soonest = some 2 := by decide +kernel
theorem pmX12_way : prm mX12_way = some 3 := by decide +kernel
theorem pmX12_tells : prm mX12_tells = some 2 := by decide +kernel
theorem pmX12_tellsBy : prm mX12_tellsBy = some 3 := by decide +kernel
theorem pmX12_beginsMany : prm mX12_beginsMany = some 0 := by decide +kernel
theorem pmX12_goesMany : prm mX12_goesMany = some 1 := by decide +kernel
theorem pmX12_manyThere : prm mX12_manyThere = some 1 := by decide +kernel
theorem pmX12_rows : prm mX12_rows = some 2 := by decide +kernel
theorem pmX12_canCome : prm mX12_canCome = some 2 := by decide +kernel
theorem pmX12_needed : prm mX12_needed = some 1 := by decide +kernel
theorem pmX12_fewest : prm mX12_fewest = some 1 := by decide +kernel
theorem pmX12_deepest : prm mX12_deepest = some 1 := by decide +kernel
theorem pmX12_shallowest : prm mX12_shallowest = some 1 := by decide +kernel
theorem pmX12_numbersTold : prm mX12_numbersTold = some 1 := by decide +kernel
theorem pmX12_possible : prm mX12_possible = some 1 := by decide +kernel
theorem pmX12_stands : prm mX12_stands = some 1 := by decide +kernel
theorem pmX12_noPosted : prm mX12_noPosted = some 1 := by decide +kernel
theorem pmX12_isSeen : prm mX12_isSeen = some 3 := by decide +kernel
theorem pmX12_laysSeen : prm mX12_laysSeen = some 1 := by decide +kernel
theorem pmX12_goesSeen : prm mX12_goesSeen = some 4 := by decide +kernel
theorem pmX12_posted : prm mX12_posted = some 1 := by decide +kernel
theorem pmX12_whoPosted : prm mX12_whoPosted = some 2 := by decide +kernel
theorem pmX12_suspects : prm mX12_suspects = some 1 := by decide +kernel
theorem pmX12_noAlone : prm mX12_noAlone = some 2 := by decide +kernel
theorem pmX12_isAlone : prm mX12_isAlone = some 2 := by decide +kernel
theorem pmX12_laysBolds : prm mX12_laysBolds = some 2 := by decide +kernel
theorem pmX12_bolds : prm mX12_bolds = some 2 := by decide +kernel
theorem pmX12_nexts : prm mX12_nexts = some 2 := by decide +kernel
theorem pmX12_oneTurn : prm mX12_oneTurn = some 2 := by decide +kernel
theorem pmX12_otherTurn : prm mX12_otherTurn = some 2 := by decide +kernel
theorem pmX12_laysForced : prm mX12_laysForced = some 3 := by decide +kernel
theorem pmX12_noForce : prm mX12_noForce = some 3 := by decide +kernel
theorem pmX12_forces : prm mX12_forces = some 3 := by decide +kernel
theorem pmX12_best : prm mX12_best = some 3 := by decide +kernel
theorem pmX12_power : prm mX12_power = some 2 := by decide +kernel
theorem pmX12_oddsAll : prm mX12_oddsAll = some 0 := by decide +kernel
theorem pmX12_laysLikely : prm mX12_laysLikely = some 1 := by decide +kernel
theorem pmX12_common : prm mX12_common = some 2 := by decide +kernel
theorem pmX12_chance : prm mX12_chance = some 3 := by decide +kernel
theorem pmX12_likeliest : prm mX12_likeliest = some 1 := by decide +kernel
theorem pmX12_cut : prm mX12_cut = some 2 := by decide +kernel
theorem pmX12_numbers : prm mX12_numbers = some 3 := by decide +kernel
theorem pmX12_write : prm mX12_write = some 3 := by decide +kernel
theorem pmX12_lists : prm mX12_lists = some 3 := by decide +kernel
theorem pmX12_image : prm mX12_image = some 1 := by decide +kernel
theorem pmX12_restore : prm mX12_restore = some 1 := by decide +kernel
theorem pmX12_deepestThing : prm mX12_deepestThing = some 0 := by decide +kernel
theorem pmX12_count : prm mX12_count = some 1 := by decide +kernel
theorem pmJ6_bitCount_0f7a4 : prm mJ6_bitCount_0f7a4 = some 1 := by decide +kernel
theorem pmJ13_bitCount_95d88 : prm mJ13_bitCount_95d88 = some 1 := by decide +kernel
theorem pmJ9_max_7cf53 : prm mJ9_max_7cf53 = some 2 := by decide +kernel
theorem pmJ9_min_7cf53 : prm mJ9_min_7cf53 = some 2 := by decide +kernel
theorem pmJ0_length_8abf5 : prm mJ0_length_8abf5 = some 0 := by decide +kernel
theorem pmJ0_charAt_5068e : prm mJ0_charAt_5068e = some 1 := by decide +kernel
theorem pmJ0_indexOf_0f7a4 : prm mJ0_indexOf_0f7a4 = some 1 := by decide +kernel
theorem pmJ0_indexOf_7cf53 : prm mJ0_indexOf_7cf53 = some 2 := by decide +kernel
theorem pmJ0_coder_7d493 : prm mJ0_coder_7d493 = some 0 := by decide +kernel
theorem pmJ0_isLatin1_aae02 : prm mJ0_isLatin1_aae02 = some 0 := by decide +kernel
theorem pmJ0_checkIndex_df160 : prm mJ0_checkIndex_df160 = some 2 := by decide +kernel
theorem pmJ1_charAt_3b067 : prm mJ1_charAt_3b067 = some 2 := by decide +kernel
theorem pmJ1_canEncode_9a6ad : prm mJ1_canEncode_9a6ad = some 1 := by decide +kernel
theorem pmJ1_indexOf_4cfef : prm mJ1_indexOf_4cfef = some 4 := by decide +kernel
theorem pmJ1_indexOfChar_4cfef : prm mJ1_indexOfChar_4cfef = some 4 := by decide +kernel
theorem pmJ7_fill_d0a16 : prm mJ7_fill_d0a16 = some 2 := by decide +kernel
theorem pmJ7_fill_53178 : prm mJ7_fill_53178 = some 2 := by decide +kernel
theorem pmJ7_copyOf_59c91 : prm mJ7_copyOf_59c91 = some 2 := by decide +kernel
theorem pmJ3_checkIndex_8e157 : prm mJ3_checkIndex_8e157 = some 3 := by decide +kernel
theorem pmJ3_checkFromToIndex_8c36e : prm mJ3_checkFromToIndex_8c36e = some 4 := by decide +kernel
theorem cf0_3 : CF 0 3 8 1 mX0_init := Or.inl ⟨rfl, (tg1 (List.mem_of_getElem? (i := 167) rfl) rfl)⟩
theorem cf0_23 : CF 0 23 4 1 mJ6_bitCount_0f7a4 := Or.inr (Or.inr ⟨mfJ6_bitCount_0f7a4, Or.inr (Or.inr (Or.inr (Or.inr (Or.inl ⟨rfl, (tg3 (List.mem_of_getElem? (i := 156) rfl) rfl), (tg3 (List.mem_of_getElem? (i := 157) rfl) rfl), pmJ6_bitCount_0f7a4⟩))))⟩)
theorem cf0_41 : CF 0 41 0 2 mX0_worth := Or.inr (Or.inr ⟨mfX0_worth, Or.inl ⟨rfl, (tg3 (List.mem_of_getElem? (i := 162) rfl) rfl), (tg3 (List.mem_of_getElem? (i := 164) rfl) rfl), (tp2 (List.mem_of_getElem? (i := 12) rfl)), pmX0_worth, by decide⟩⟩)
theorem cf0_45 : CF 0 45 4 3 mX0_kept := Or.inr (Or.inr ⟨mfX0_kept, Or.inr (Or.inr (Or.inr (Or.inr (Or.inl ⟨rfl, (tg3 (List.mem_of_getElem? (i := 179) rfl) rfl), (tg3 (List.mem_of_getElem? (i := 180) rfl) rfl), pmX0_kept⟩))))⟩)
theorem cf0_53 : CF 0 53 5 2 mX11_has := Or.inr (Or.inr ⟨mfX11_has, Or.inr (Or.inr (Or.inr (Or.inr (Or.inr (⟨rfl, ⟨_, (List.mem_of_getElem? (i := 11) rfl)⟩, (tg3 (List.mem_of_getElem? (i := 142) rfl) rfl), pmX11_has⟩)))))⟩)
theorem cf0_63 : CF 0 63 4 2 mJ9_min_7cf53 := Or.inr (Or.inr ⟨mfJ9_min_7cf53, Or.inr (Or.inr (Or.inr (Or.inr (Or.inl ⟨rfl, (tg3 (List.mem_of_getElem? (i := 183) rfl) rfl), (tg2 (List.mem_of_getElem? (i := 160) rfl) rfl), pmJ9_min_7cf53⟩))))⟩)
theorem cf0_81 : CF 0 81 0 2 mX0_push := Or.inr (Or.inr ⟨mfX0_push, Or.inl ⟨rfl, (tg3 (List.mem_of_getElem? (i := 166) rfl) rfl), (tg3 (List.mem_of_getElem? (i := 168) rfl) rfl), (tp2 (List.mem_of_getElem? (i := 13) rfl)), pmX0_push, by decide⟩⟩)
theorem cf0_85 : CF 0 85 0 1 mX0_pop := Or.inr (Or.inr ⟨mfX0_pop, Or.inl ⟨rfl, (tg3 (List.mem_of_getElem? (i := 170) rfl) rfl), (tg3 (List.mem_of_getElem? (i := 172) rfl) rfl), (tp2 (List.mem_of_getElem? (i := 14) rfl)), pmX0_pop, by decide⟩⟩)
theorem cf0_89 : CF 0 89 4 3 mX0_joined := Or.inr (Or.inr ⟨mfX0_joined, Or.inr (Or.inr (Or.inr (Or.inr (Or.inl ⟨rfl, (tg3 (List.mem_of_getElem? (i := 174) rfl) rfl), (tg3 (List.mem_of_getElem? (i := 175) rfl) rfl), pmX0_joined⟩))))⟩)
theorem cfa0 : ∀ q ∈ (tbl 0).2.1, CFe 0 q := List.forall_mem_cons.mpr ⟨cf0_3, List.forall_mem_cons.mpr ⟨cf0_23, List.forall_mem_cons.mpr ⟨cf0_41, List.forall_mem_cons.mpr ⟨cf0_45, List.forall_mem_cons.mpr ⟨cf0_53, List.forall_mem_cons.mpr ⟨cf0_63, List.forall_mem_cons.mpr ⟨cf0_81, List.forall_mem_cons.mpr ⟨cf0_85, List.forall_mem_cons.mpr ⟨cf0_89, fun _ h => absurd h List.not_mem_nil⟩⟩⟩⟩⟩⟩⟩⟩⟩
theorem kf0_93 : KF 0 93 (.inl (-1000000)) := Or.inl ⟨(-1000000), rfl, by unfold in32; omega, (tg3 (List.mem_of_getElem? (i := 177) rfl) rfl)⟩
theorem kf0_94 : KF 0 94 (.inl (1000000)) := Or.inl ⟨1000000, rfl, by unfold in32; omega, (tg3 (List.mem_of_getElem? (i := 178) rfl) rfl)⟩
theorem kfa0 : ∀ q ∈ (tbl 0).2.2.1, KFe 0 q := List.forall_mem_cons.mpr ⟨kf0_93, List.forall_mem_cons.mpr ⟨kf0_94, fun _ h => absurd h List.not_mem_nil⟩⟩
theorem sfa0 : ∀ q ∈ (tbl 0).2.2.2.2.2, SFe 0 q := fun _ h => absurd h List.not_mem_nil
theorem cf1_3 : CF 1 3 8 1 mX0_init := Or.inl ⟨rfl, (tg5 (List.mem_of_getElem? (i := 175) rfl) rfl)⟩
theorem cf1_52 : CF 1 52 5 2 mX11_has := Or.inr (Or.inr ⟨mfX11_has, Or.inr (Or.inr (Or.inr (Or.inr (Or.inr (⟨rfl, ⟨_, (List.mem_of_getElem? (i := 19) rfl)⟩, (tg3 (List.mem_of_getElem? (i := 142) rfl) rfl), pmX11_has⟩)))))⟩)
theorem cf1_56 : CF 1 56 0 3 mX7_placeAfter := Or.inr (Or.inr ⟨mfX7_placeAfter, Or.inl ⟨rfl, (tg5 (List.mem_of_getElem? (i := 209) rfl) rfl), (tg5 (List.mem_of_getElem? (i := 14) rfl) rfl), (tg5 (List.mem_of_getElem? (i := 15) rfl) rfl), pmX7_placeAfter, by decide⟩⟩)
theorem cf1_60 : CF 1 60 0 2 mX1_setOut := Or.inr (Or.inr ⟨mfX1_setOut, Or.inl ⟨rfl, (tg5 (List.mem_of_getElem? (i := 214) rfl) rfl), (tg5 (List.mem_of_getElem? (i := 216) rfl) rfl), (tp4 (List.mem_of_getElem? (i := 11) rfl)), pmX1_setOut, by decide⟩⟩)
theorem cf1_67 : CF 1 67 0 3 mX1_reachedFrom := Or.inr (Or.inr ⟨mfX1_reachedFrom, Or.inl ⟨rfl, (tg5 (List.mem_of_getElem? (i := 221) rfl) rfl), (tg5 (List.mem_of_getElem? (i := 223) rfl) rfl), (tp4 (List.mem_of_getElem? (i := 12) rfl)), pmX1_reachedFrom, by decide⟩⟩)
theorem cf1_71 : CF 1 71 0 5 mX1_reachedBy := Or.inr (Or.inr ⟨mfX1_reachedBy, Or.inl ⟨rfl, (tg5 (List.mem_of_getElem? (i := 225) rfl) rfl), (tg5 (List.mem_of_getElem? (i := 227) rfl) rfl), (tp4 (List.mem_of_getElem? (i := 13) rfl)), pmX1_reachedBy, by decide⟩⟩)
theorem cf1_75 : CF 1 75 4 1 mJ6_bitCount_0f7a4 := Or.inr (Or.inr ⟨mfJ6_bitCount_0f7a4, Or.inr (Or.inr (Or.inr (Or.inr (Or.inl ⟨rfl, (tg5 (List.mem_of_getElem? (i := 218) rfl) rfl), (tg3 (List.mem_of_getElem? (i := 157) rfl) rfl), pmJ6_bitCount_0f7a4⟩))))⟩)
theorem cf1_81 : CF 1 81 4 2 mJ9_max_7cf53 := Or.inr (Or.inr ⟨mfJ9_max_7cf53, Or.inr (Or.inr (Or.inr (Or.inr (Or.inl ⟨rfl, (tg5 (List.mem_of_getElem? (i := 219) rfl) rfl), (tg2 (List.mem_of_getElem? (i := 157) rfl) rfl), pmJ9_max_7cf53⟩))))⟩)
theorem cf1_86 : CF 1 86 0 2 mX7_thingsAt := Or.inr (Or.inr ⟨mfX7_thingsAt, Or.inl ⟨rfl, (tg5 (List.mem_of_getElem? (i := 220) rfl) rfl), (tg4 (List.mem_of_getElem? (i := 163) rfl) rfl), (tg4 (List.mem_of_getElem? (i := 164) rfl) rfl), pmX7_thingsAt, by decide⟩⟩)
theorem cfa1 : ∀ q ∈ (tbl 1).2.1, CFe 1 q := List.forall_mem_cons.mpr ⟨cf1_3, List.forall_mem_cons.mpr ⟨cf1_52, List.forall_mem_cons.mpr ⟨cf1_56, List.forall_mem_cons.mpr ⟨cf1_60, List.forall_mem_cons.mpr ⟨cf1_67, List.forall_mem_cons.mpr ⟨cf1_71, List.forall_mem_cons.mpr ⟨cf1_75, List.forall_mem_cons.mpr ⟨cf1_81, List.forall_mem_cons.mpr ⟨cf1_86, fun _ h => absurd h List.not_mem_nil⟩⟩⟩⟩⟩⟩⟩⟩⟩
theorem kfa1 : ∀ q ∈ (tbl 1).2.2.1, KFe 1 q := fun _ h => absurd h List.not_mem_nil
theorem sfa1 : ∀ q ∈ (tbl 1).2.2.2.2.2, SFe 1 q := fun _ h => absurd h List.not_mem_nil
theorem cf2_1 : CF 2 1 8 1 mX0_init := Or.inl ⟨rfl, (tg2 (List.mem_of_getElem? (i := 35) rfl) rfl)⟩
theorem cf2_9 : CF 2 9 3 1 mX8_init := Or.inr (Or.inr ⟨mfX8_init, Or.inr (Or.inr (Or.inr (Or.inl ⟨rfl, ⟨_, (List.mem_of_getElem? (i := 9) rfl)⟩, (tg1 (List.mem_of_getElem? (i := 195) rfl) rfl), rfl, rfl, pmX8_init⟩)))⟩)
theorem cf2_18 : CF 2 18 3 1 mX5_init := Or.inr (Or.inr ⟨mfX5_init, Or.inr (Or.inr (Or.inr (Or.inl ⟨rfl, ⟨_, (List.mem_of_getElem? (i := 10) rfl)⟩, (tg1 (List.mem_of_getElem? (i := 41) rfl) rfl), rfl, rfl, pmX5_init⟩)))⟩)
theorem cfa2 : ∀ q ∈ (tbl 2).2.1, CFe 2 q := List.forall_mem_cons.mpr ⟨cf2_1, List.forall_mem_cons.mpr ⟨cf2_9, List.forall_mem_cons.mpr ⟨cf2_18, fun _ h => absurd h List.not_mem_nil⟩⟩⟩
theorem kfa2 : ∀ q ∈ (tbl 2).2.2.1, KFe 2 q := fun _ h => absurd h List.not_mem_nil
theorem sfa2 : ∀ q ∈ (tbl 2).2.2.2.2.2, SFe 2 q := fun _ h => absurd h List.not_mem_nil
theorem cf3_1 : CF 3 1 8 1 mX0_init := Or.inl ⟨rfl, (tg5 (List.mem_of_getElem? (i := 61) rfl) rfl)⟩
theorem cf3_16 : CF 3 16 4 1 mJ13_bitCount_95d88 := Or.inr (Or.inr ⟨mfJ13_bitCount_95d88, Or.inr (Or.inr (Or.inr (Or.inr (Or.inl ⟨rfl, (tg5 (List.mem_of_getElem? (i := 77) rfl) rfl), (tg5 (List.mem_of_getElem? (i := 78) rfl) rfl), pmJ13_bitCount_95d88⟩))))⟩)
theorem cfa3 : ∀ q ∈ (tbl 3).2.1, CFe 3 q := List.forall_mem_cons.mpr ⟨cf3_1, List.forall_mem_cons.mpr ⟨cf3_16, fun _ h => absurd h List.not_mem_nil⟩⟩
theorem kfa3 : ∀ q ∈ (tbl 3).2.2.1, KFe 3 q := fun _ h => absurd h List.not_mem_nil
theorem sfa3 : ∀ q ∈ (tbl 3).2.2.2.2.2, SFe 3 q := fun _ h => absurd h List.not_mem_nil
theorem cf4_3 : CF 4 3 8 1 mX0_init := Or.inl ⟨rfl, (tg1 (List.mem_of_getElem? (i := 226) rfl) rfl)⟩
theorem cf4_17 : CF 4 17 3 1 mX8_init := Or.inr (Or.inr ⟨mfX8_init, Or.inr (Or.inr (Or.inr (Or.inl ⟨rfl, ⟨_, (List.mem_of_getElem? (i := 5) rfl)⟩, (tg1 (List.mem_of_getElem? (i := 195) rfl) rfl), rfl, rfl, pmX8_init⟩)))⟩)
theorem cf4_22 : CF 4 22 0 2 mX8_become := Or.inr (Or.inr ⟨mfX8_become, Or.inl ⟨rfl, (tg3 (List.mem_of_getElem? (i := 200) rfl) rfl), (tg3 (List.mem_of_getElem? (i := 201) rfl) rfl), (tg3 (List.mem_of_getElem? (i := 202) rfl) rfl), pmX8_become, by decide⟩⟩)
theorem cf4_29 : CF 4 29 4 2 mJ9_min_7cf53 := Or.inr (Or.inr ⟨mfJ9_min_7cf53, Or.inr (Or.inr (Or.inr (Or.inr (Or.inl ⟨rfl, (tg3 (List.mem_of_getElem? (i := 212) rfl) rfl), (tg2 (List.mem_of_getElem? (i := 160) rfl) rfl), pmJ9_min_7cf53⟩))))⟩)
theorem cfa4 : ∀ q ∈ (tbl 4).2.1, CFe 4 q := List.forall_mem_cons.mpr ⟨cf4_3, List.forall_mem_cons.mpr ⟨cf4_17, List.forall_mem_cons.mpr ⟨cf4_22, List.forall_mem_cons.mpr ⟨cf4_29, fun _ h => absurd h List.not_mem_nil⟩⟩⟩⟩
theorem kfa4 : ∀ q ∈ (tbl 4).2.2.1, KFe 4 q := fun _ h => absurd h List.not_mem_nil
theorem sfa4 : ∀ q ∈ (tbl 4).2.2.2.2.2, SFe 4 q := fun _ h => absurd h List.not_mem_nil
theorem cf5_3 : CF 5 3 8 1 mX0_init := Or.inl ⟨rfl, (tg1 (List.mem_of_getElem? (i := 43) rfl) rfl)⟩
theorem cf5_46 : CF 5 46 4 2 mJ9_max_7cf53 := Or.inr (Or.inr ⟨mfJ9_max_7cf53, Or.inr (Or.inr (Or.inr (Or.inr (Or.inl ⟨rfl, (tg6 (List.mem_of_getElem? (i := 63) rfl) rfl), (tg2 (List.mem_of_getElem? (i := 157) rfl) rfl), pmJ9_max_7cf53⟩))))⟩)
theorem cfa5 : ∀ q ∈ (tbl 5).2.1, CFe 5 q := List.forall_mem_cons.mpr ⟨cf5_3, List.forall_mem_cons.mpr ⟨cf5_46, fun _ h => absurd h List.not_mem_nil⟩⟩
theorem kfa5 : ∀ q ∈ (tbl 5).2.2.1, KFe 5 q := fun _ h => absurd h List.not_mem_nil
theorem sfa5 : ∀ q ∈ (tbl 5).2.2.2.2.2, SFe 5 q := List.forall_mem_cons.mpr ⟨Or.inl ⟨rfl, _, (List.mem_of_getElem? (i := 2) rfl)⟩, fun _ h => absurd h List.not_mem_nil⟩
theorem cf6_3 : CF 6 3 8 1 mX0_init := Or.inl ⟨rfl, (tg1 (List.mem_of_getElem? (i := 37) rfl) rfl)⟩
theorem cf6_21 : CF 6 21 3 1 mX5_init := Or.inr (Or.inr ⟨mfX5_init, Or.inr (Or.inr (Or.inr (Or.inl ⟨rfl, ⟨_, (List.mem_of_getElem? (i := 1) rfl)⟩, (tg1 (List.mem_of_getElem? (i := 41) rfl) rfl), rfl, rfl, pmX5_init⟩)))⟩)
theorem cf6_42 : CF 6 42 0 1 mX6_advance := Or.inr (Or.inr ⟨mfX6_advance, Or.inl ⟨rfl, (tg2 (List.mem_of_getElem? (i := 102) rfl) rfl), (tg2 (List.mem_of_getElem? (i := 104) rfl) rfl), (tp1 (List.mem_of_getElem? (i := 0) rfl)), pmX6_advance, by decide⟩⟩)
theorem cf6_47 : CF 6 47 0 2 mX6_takeWord := Or.inr (Or.inr ⟨mfX6_takeWord, Or.inl ⟨rfl, (tg2 (List.mem_of_getElem? (i := 215) rfl) rfl), (tg2 (List.mem_of_getElem? (i := 217) rfl) rfl), (tp1 (List.mem_of_getElem? (i := 4) rfl)), pmX6_takeWord, by decide⟩⟩)
theorem cf6_51 : CF 6 51 0 2 mX6_takeNumber := Or.inr (Or.inr ⟨mfX6_takeNumber, Or.inl ⟨rfl, (tg3 (List.mem_of_getElem? (i := 4) rfl) rfl), (tg3 (List.mem_of_getElem? (i := 6) rfl) rfl), (tp1 (List.mem_of_getElem? (i := 6) rfl)), pmX6_takeNumber, by decide⟩⟩)
theorem cf6_58 : CF 6 58 0 1 mX6_endLine := Or.inr (Or.inr ⟨mfX6_endLine, Or.inl ⟨rfl, (tg3 (List.mem_of_getElem? (i := 8) rfl) rfl), (tg3 (List.mem_of_getElem? (i := 10) rfl) rfl), (tp1 (List.mem_of_getElem? (i := 7) rfl)), pmX6_endLine, by decide⟩⟩)
theorem cf6_66 : CF 6 66 0 2 mX6_isWord := Or.inr (Or.inr ⟨mfX6_isWord, Or.inl ⟨rfl, (tg2 (List.mem_of_getElem? (i := 219) rfl) rfl), (tg2 (List.mem_of_getElem? (i := 221) rfl) rfl), (tp1 (List.mem_of_getElem? (i := 5) rfl)), pmX6_isWord, by decide⟩⟩)
theorem cf6_70 : CF 6 70 0 1 mX6_readThing := Or.inr (Or.inr ⟨mfX6_readThing, Or.inl ⟨rfl, (tg3 (List.mem_of_getElem? (i := 21) rfl) rfl), (tg3 (List.mem_of_getElem? (i := 23) rfl) rfl), (tp1 (List.mem_of_getElem? (i := 10) rfl)), pmX6_readThing, by decide⟩⟩)
theorem cf6_75 : CF 6 75 0 1 mX6_readGoer := Or.inr (Or.inr ⟨mfX6_readGoer, Or.inl ⟨rfl, (tg3 (List.mem_of_getElem? (i := 34) rfl) rfl), (tg3 (List.mem_of_getElem? (i := 36) rfl) rfl), (tp1 (List.mem_of_getElem? (i := 12) rfl)), pmX6_readGoer, by decide⟩⟩)
theorem cf6_84 : CF 6 84 0 1 mX6_readLaw := Or.inr (Or.inr ⟨mfX6_readLaw, Or.inl ⟨rfl, (tg3 (List.mem_of_getElem? (i := 46) rfl) rfl), (tg3 (List.mem_of_getElem? (i := 48) rfl) rfl), (tp1 (List.mem_of_getElem? (i := 14) rfl)), pmX6_readLaw, by decide⟩⟩)
theorem cf6_94 : CF 6 94 0 2 mX6_fail := Or.inr (Or.inr ⟨mfX6_fail, Or.inl ⟨rfl, (tg2 (List.mem_of_getElem? (i := 123) rfl) rfl), (tg2 (List.mem_of_getElem? (i := 125) rfl) rfl), (tp1 (List.mem_of_getElem? (i := 3) rfl)), pmX6_fail, by decide⟩⟩)
theorem cf6_98 : CF 6 98 0 2 mX6_takeSign := Or.inr (Or.inr ⟨mfX6_takeSign, Or.inl ⟨rfl, (tg3 (List.mem_of_getElem? (i := 12) rfl) rfl), (tg3 (List.mem_of_getElem? (i := 14) rfl) rfl), (tp1 (List.mem_of_getElem? (i := 8) rfl)), pmX6_takeSign, by decide⟩⟩)
theorem cf6_113 : CF 6 113 0 2 mX6_tookPart := Or.inr (Or.inr ⟨mfX6_tookPart, Or.inl ⟨rfl, (tg3 (List.mem_of_getElem? (i := 26) rfl) rfl), (tg3 (List.mem_of_getElem? (i := 28) rfl) rfl), (tp1 (List.mem_of_getElem? (i := 11) rfl)), pmX6_tookPart, by decide⟩⟩)
theorem cf6_139 : CF 6 139 0 2 mX6_tookFlag := Or.inr (Or.inr ⟨mfX6_tookFlag, Or.inl ⟨rfl, (tg3 (List.mem_of_getElem? (i := 39) rfl) rfl), (tg3 (List.mem_of_getElem? (i := 41) rfl) rfl), (tp1 (List.mem_of_getElem? (i := 13) rfl)), pmX6_tookFlag, by decide⟩⟩)
theorem cf6_150 : CF 6 150 0 2 mX6_readSum := Or.inr (Or.inr ⟨mfX6_readSum, Or.inl ⟨rfl, (tg3 (List.mem_of_getElem? (i := 50) rfl) rfl), (tg3 (List.mem_of_getElem? (i := 52) rfl) rfl), (tp1 (List.mem_of_getElem? (i := 15) rfl)), pmX6_readSum, by decide⟩⟩)
theorem cf6_153 : CF 6 153 4 2 mJ7_copyOf_59c91 := Or.inr (Or.inr ⟨mfJ7_copyOf_59c91, Or.inr (Or.inr (Or.inr (Or.inr (Or.inl ⟨rfl, (tg3 (List.mem_of_getElem? (i := 105) rfl) rfl), (tg3 (List.mem_of_getElem? (i := 106) rfl) rfl), pmJ7_copyOf_59c91⟩))))⟩)
theorem cf6_159 : CF 6 159 0 2 mX6_readTerm := Or.inr (Or.inr ⟨mfX6_readTerm, Or.inl ⟨rfl, (tg3 (List.mem_of_getElem? (i := 54) rfl) rfl), (tg3 (List.mem_of_getElem? (i := 56) rfl) rfl), (tp2 (List.mem_of_getElem? (i := 0) rfl)), pmX6_readTerm, by decide⟩⟩)
theorem cf6_162 : CF 6 162 0 2 mX6_isSign := Or.inr (Or.inr ⟨mfX6_isSign, Or.inl ⟨rfl, (tg3 (List.mem_of_getElem? (i := 16) rfl) rfl), (tg3 (List.mem_of_getElem? (i := 18) rfl) rfl), (tp1 (List.mem_of_getElem? (i := 9) rfl)), pmX6_isSign, by decide⟩⟩)
theorem cf6_166 : CF 6 166 0 3 mX6_emit := Or.inr (Or.inr ⟨mfX6_emit, Or.inl ⟨rfl, (tg3 (List.mem_of_getElem? (i := 70) rfl) rfl), (tg3 (List.mem_of_getElem? (i := 72) rfl) rfl), (tp2 (List.mem_of_getElem? (i := 3) rfl)), pmX6_emit, by decide⟩⟩)
theorem cf6_170 : CF 6 170 0 2 mX6_readAtom := Or.inr (Or.inr ⟨mfX6_readAtom, Or.inl ⟨rfl, (tg3 (List.mem_of_getElem? (i := 58) rfl) rfl), (tg3 (List.mem_of_getElem? (i := 60) rfl) rfl), (tp2 (List.mem_of_getElem? (i := 1) rfl)), pmX6_readAtom, by decide⟩⟩)
theorem cf6_173 : CF 6 173 0 1 mX6_knownWord := Or.inr (Or.inr ⟨mfX6_knownWord, Or.inl ⟨rfl, (tg3 (List.mem_of_getElem? (i := 62) rfl) rfl), (tg3 (List.mem_of_getElem? (i := 64) rfl) rfl), (tp2 (List.mem_of_getElem? (i := 2) rfl)), pmX6_knownWord, by decide⟩⟩)
theorem cf6_180 : CF 6 180 0 2 mX6_opens := Or.inr (Or.inr ⟨mfX6_opens, Or.inl ⟨rfl, (tg3 (List.mem_of_getElem? (i := 74) rfl) rfl), (tg3 (List.mem_of_getElem? (i := 76) rfl) rfl), (tp2 (List.mem_of_getElem? (i := 4) rfl)), pmX6_opens, by decide⟩⟩)
theorem cf6_185 : CF 6 185 0 2 mX6_readChoice := Or.inr (Or.inr ⟨mfX6_readChoice, Or.inl ⟨rfl, (tg3 (List.mem_of_getElem? (i := 79) rfl) rfl), (tg3 (List.mem_of_getElem? (i := 81) rfl) rfl), (tp2 (List.mem_of_getElem? (i := 5) rfl)), pmX6_readChoice, by decide⟩⟩)
theorem cf6_188 : CF 6 188 0 2 mX6_readTruth := Or.inr (Or.inr ⟨mfX6_readTruth, Or.inl ⟨rfl, (tg3 (List.mem_of_getElem? (i := 83) rfl) rfl), (tg3 (List.mem_of_getElem? (i := 85) rfl) rfl), (tp2 (List.mem_of_getElem? (i := 6) rfl)), pmX6_readTruth, by decide⟩⟩)
theorem cf6_196 : CF 6 196 0 2 mX6_readBoth := Or.inr (Or.inr ⟨mfX6_readBoth, Or.inl ⟨rfl, (tg3 (List.mem_of_getElem? (i := 87) rfl) rfl), (tg3 (List.mem_of_getElem? (i := 89) rfl) rfl), (tp2 (List.mem_of_getElem? (i := 7) rfl)), pmX6_readBoth, by decide⟩⟩)
theorem cf6_201 : CF 6 201 0 2 mX6_readUnit := Or.inr (Or.inr ⟨mfX6_readUnit, Or.inl ⟨rfl, (tg3 (List.mem_of_getElem? (i := 91) rfl) rfl), (tg3 (List.mem_of_getElem? (i := 93) rfl) rfl), (tp2 (List.mem_of_getElem? (i := 8) rfl)), pmX6_readUnit, by decide⟩⟩)
theorem cf6_208 : CF 6 208 0 2 mX6_readComparison := Or.inr (Or.inr ⟨mfX6_readComparison, Or.inl ⟨rfl, (tg3 (List.mem_of_getElem? (i := 96) rfl) rfl), (tg3 (List.mem_of_getElem? (i := 98) rfl) rfl), (tp2 (List.mem_of_getElem? (i := 9) rfl)), pmX6_readComparison, by decide⟩⟩)
theorem cf6_220 : CF 6 220 0 1 mJ0_length_8abf5 := Or.inr (Or.inr ⟨mfJ0_length_8abf5, Or.inl ⟨rfl, (tg2 (List.mem_of_getElem? (i := 223) rfl) rfl), (tg2 (List.mem_of_getElem? (i := 143) rfl) rfl), (tg2 (List.mem_of_getElem? (i := 144) rfl) rfl), pmJ0_length_8abf5, by decide⟩⟩)
theorem cf6_224 : CF 6 224 0 2 mJ0_charAt_5068e := Or.inr (Or.inr ⟨mfJ0_charAt_5068e, Or.inl ⟨rfl, (tg2 (List.mem_of_getElem? (i := 224) rfl) rfl), (tg2 (List.mem_of_getElem? (i := 225) rfl) rfl), (tg2 (List.mem_of_getElem? (i := 226) rfl) rfl), pmJ0_charAt_5068e, by decide⟩⟩)
theorem cf6_228 : CF 6 228 4 1 mX6_isBlank := Or.inr (Or.inr ⟨mfX6_isBlank, Or.inr (Or.inr (Or.inr (Or.inr (Or.inl ⟨rfl, (tg2 (List.mem_of_getElem? (i := 106) rfl) rfl), (tg2 (List.mem_of_getElem? (i := 107) rfl) rfl), pmX6_isBlank⟩))))⟩)
theorem cf6_232 : CF 6 232 4 1 mX6_isLetter := Or.inr (Or.inr ⟨mfX6_isLetter, Or.inr (Or.inr (Or.inr (Or.inr (Or.inl ⟨rfl, (tg2 (List.mem_of_getElem? (i := 109) rfl) rfl), (tg2 (List.mem_of_getElem? (i := 110) rfl) rfl), pmX6_isLetter⟩))))⟩)
theorem cf6_235 : CF 6 235 0 1 mX6_endWord := Or.inr (Or.inr ⟨mfX6_endWord, Or.inl ⟨rfl, (tg2 (List.mem_of_getElem? (i := 112) rfl) rfl), (tg2 (List.mem_of_getElem? (i := 114) rfl) rfl), (tp1 (List.mem_of_getElem? (i := 1) rfl)), pmX6_endWord, by decide⟩⟩)
theorem cf6_238 : CF 6 238 4 1 mX6_isDigit := Or.inr (Or.inr ⟨mfX6_isDigit, Or.inr (Or.inr (Or.inr (Or.inr (Or.inl ⟨rfl, (tg2 (List.mem_of_getElem? (i := 116) rfl) rfl), (tg2 (List.mem_of_getElem? (i := 117) rfl) rfl), pmX6_isDigit⟩))))⟩)
theorem cf6_241 : CF 6 241 0 1 mX6_endNumber := Or.inr (Or.inr ⟨mfX6_endNumber, Or.inl ⟨rfl, (tg2 (List.mem_of_getElem? (i := 119) rfl) rfl), (tg2 (List.mem_of_getElem? (i := 121) rfl) rfl), (tp1 (List.mem_of_getElem? (i := 2) rfl)), pmX6_endNumber, by decide⟩⟩)
theorem cf6_246 : CF 6 246 0 2 mJ0_indexOf_0f7a4 := Or.inr (Or.inr ⟨mfJ0_indexOf_0f7a4, Or.inl ⟨rfl, (tg2 (List.mem_of_getElem? (i := 128) rfl) rfl), (tg2 (List.mem_of_getElem? (i := 129) rfl) rfl), (tg2 (List.mem_of_getElem? (i := 130) rfl) rfl), pmJ0_indexOf_0f7a4, by decide⟩⟩)
theorem cfa6 : ∀ q ∈ (tbl 6).2.1, CFe 6 q := List.forall_mem_cons.mpr ⟨cf6_3, List.forall_mem_cons.mpr ⟨cf6_21, List.forall_mem_cons.mpr ⟨cf6_42, List.forall_mem_cons.mpr ⟨cf6_47, List.forall_mem_cons.mpr ⟨cf6_51, List.forall_mem_cons.mpr ⟨cf6_58, List.forall_mem_cons.mpr ⟨cf6_66, List.forall_mem_cons.mpr ⟨cf6_70, List.forall_mem_cons.mpr ⟨cf6_75, List.forall_mem_cons.mpr ⟨cf6_84, List.forall_mem_cons.mpr ⟨cf6_94, List.forall_mem_cons.mpr ⟨cf6_98, List.forall_mem_cons.mpr ⟨cf6_113, List.forall_mem_cons.mpr ⟨cf6_139, List.forall_mem_cons.mpr ⟨cf6_150, List.forall_mem_cons.mpr ⟨cf6_153, List.forall_mem_cons.mpr ⟨cf6_159, List.forall_mem_cons.mpr ⟨cf6_162, List.forall_mem_cons.mpr ⟨cf6_166, List.forall_mem_cons.mpr ⟨cf6_170, List.forall_mem_cons.mpr ⟨cf6_173, List.forall_mem_cons.mpr ⟨cf6_180, List.forall_mem_cons.mpr ⟨cf6_185, List.forall_mem_cons.mpr ⟨cf6_188, List.forall_mem_cons.mpr ⟨cf6_196, List.forall_mem_cons.mpr ⟨cf6_201, List.forall_mem_cons.mpr ⟨cf6_208, List.forall_mem_cons.mpr ⟨cf6_220, List.forall_mem_cons.mpr ⟨cf6_224, List.forall_mem_cons.mpr ⟨cf6_228, List.forall_mem_cons.mpr ⟨cf6_232, List.forall_mem_cons.mpr ⟨cf6_235, List.forall_mem_cons.mpr ⟨cf6_238, List.forall_mem_cons.mpr ⟨cf6_241, List.forall_mem_cons.mpr ⟨cf6_246, fun _ h => absurd h List.not_mem_nil⟩⟩⟩⟩⟩⟩⟩⟩⟩⟩⟩⟩⟩⟩⟩⟩⟩⟩⟩⟩⟩⟩⟩⟩⟩⟩⟩⟩⟩⟩⟩⟩⟩⟩⟩
theorem kf6_45 : KF 6 45 (.inr (.inr 2)) := Or.inr (Or.inr ⟨1, _, rfl, by decide, List.mem_of_getElem? (i := 1) rfl⟩)
theorem kf6_64 : KF 6 64 (.inr (.inr 3)) := Or.inr (Or.inr ⟨2, _, rfl, by decide, List.mem_of_getElem? (i := 2) rfl⟩)
theorem kf6_73 : KF 6 73 (.inr (.inr 8)) := Or.inr (Or.inr ⟨7, _, rfl, by decide, List.mem_of_getElem? (i := 7) rfl⟩)
theorem kf6_78 : KF 6 78 (.inr (.inr 12)) := Or.inr (Or.inr ⟨11, _, rfl, by decide, List.mem_of_getElem? (i := 11) rfl⟩)
theorem kf6_90 : KF 6 90 (.inr (.inr 24)) := Or.inr (Or.inr ⟨23, _, rfl, by decide, List.mem_of_getElem? (i := 23) rfl⟩)
theorem kf6_108 : KF 6 108 (.inr (.inr 4)) := Or.inr (Or.inr ⟨3, _, rfl, by decide, List.mem_of_getElem? (i := 3) rfl⟩)
theorem kf6_117 : KF 6 117 (.inr (.inr 5)) := Or.inr (Or.inr ⟨4, _, rfl, by decide, List.mem_of_getElem? (i := 4) rfl⟩)
theorem kf6_121 : KF 6 121 (.inr (.inr 6)) := Or.inr (Or.inr ⟨5, _, rfl, by decide, List.mem_of_getElem? (i := 5) rfl⟩)
theorem kf6_125 : KF 6 125 (.inr (.inr 7)) := Or.inr (Or.inr ⟨6, _, rfl, by decide, List.mem_of_getElem? (i := 6) rfl⟩)
theorem kf6_132 : KF 6 132 (.inr (.inr 9)) := Or.inr (Or.inr ⟨8, _, rfl, by decide, List.mem_of_getElem? (i := 8) rfl⟩)
theorem kf6_142 : KF 6 142 (.inr (.inr 10)) := Or.inr (Or.inr ⟨9, _, rfl, by decide, List.mem_of_getElem? (i := 9) rfl⟩)
theorem kf6_146 : KF 6 146 (.inr (.inr 11)) := Or.inr (Or.inr ⟨10, _, rfl, by decide, List.mem_of_getElem? (i := 10) rfl⟩)
theorem kf6_183 : KF 6 183 (.inr (.inr 17)) := Or.inr (Or.inr ⟨16, _, rfl, by decide, List.mem_of_getElem? (i := 16) rfl⟩)
theorem kf6_191 : KF 6 191 (.inr (.inr 21)) := Or.inr (Or.inr ⟨20, _, rfl, by decide, List.mem_of_getElem? (i := 20) rfl⟩)
theorem kf6_193 : KF 6 193 (.inr (.inr 22)) := Or.inr (Or.inr ⟨21, _, rfl, by decide, List.mem_of_getElem? (i := 21) rfl⟩)
theorem kf6_195 : KF 6 195 (.inr (.inr 23)) := Or.inr (Or.inr ⟨22, _, rfl, by decide, List.mem_of_getElem? (i := 22) rfl⟩)
theorem kf6_199 : KF 6 199 (.inr (.inr 20)) := Or.inr (Or.inr ⟨19, _, rfl, by decide, List.mem_of_getElem? (i := 19) rfl⟩)
theorem kf6_204 : KF 6 204 (.inr (.inr 19)) := Or.inr (Or.inr ⟨18, _, rfl, by decide, List.mem_of_getElem? (i := 18) rfl⟩)
theorem kf6_206 : KF 6 206 (.inr (.inr 18)) := Or.inr (Or.inr ⟨17, _, rfl, by decide, List.mem_of_getElem? (i := 17) rfl⟩)
theorem kf6_211 : KF 6 211 (.inr (.inr 13)) := Or.inr (Or.inr ⟨12, _, rfl, by decide, List.mem_of_getElem? (i := 12) rfl⟩)
theorem kf6_213 : KF 6 213 (.inr (.inr 14)) := Or.inr (Or.inr ⟨13, _, rfl, by decide, List.mem_of_getElem? (i := 13) rfl⟩)
theorem kf6_214 : KF 6 214 (.inr (.inr 15)) := Or.inr (Or.inr ⟨14, _, rfl, by decide, List.mem_of_getElem? (i := 14) rfl⟩)
theorem kf6_215 : KF 6 215 (.inr (.inr 16)) := Or.inr (Or.inr ⟨15, _, rfl, by decide, List.mem_of_getElem? (i := 15) rfl⟩)
theorem kf6_244 : KF 6 244 (.inr (.inr 1)) := Or.inr (Or.inr ⟨0, _, rfl, by decide, List.mem_of_getElem? (i := 0) rfl⟩)
theorem kfa6 : ∀ q ∈ (tbl 6).2.2.1, KFe 6 q := List.forall_mem_cons.mpr ⟨kf6_45, List.forall_mem_cons.mpr ⟨kf6_64, List.forall_mem_cons.mpr ⟨kf6_73, List.forall_mem_cons.mpr ⟨kf6_78, List.forall_mem_cons.mpr ⟨kf6_90, List.forall_mem_cons.mpr ⟨kf6_108, List.forall_mem_cons.mpr ⟨kf6_117, List.forall_mem_cons.mpr ⟨kf6_121, List.forall_mem_cons.mpr ⟨kf6_125, List.forall_mem_cons.mpr ⟨kf6_132, List.forall_mem_cons.mpr ⟨kf6_142, List.forall_mem_cons.mpr ⟨kf6_146, List.forall_mem_cons.mpr ⟨kf6_183, List.forall_mem_cons.mpr ⟨kf6_191, List.forall_mem_cons.mpr ⟨kf6_193, List.forall_mem_cons.mpr ⟨kf6_195, List.forall_mem_cons.mpr ⟨kf6_199, List.forall_mem_cons.mpr ⟨kf6_204, List.forall_mem_cons.mpr ⟨kf6_206, List.forall_mem_cons.mpr ⟨kf6_211, List.forall_mem_cons.mpr ⟨kf6_213, List.forall_mem_cons.mpr ⟨kf6_214, List.forall_mem_cons.mpr ⟨kf6_215, List.forall_mem_cons.mpr ⟨kf6_244, fun _ h => absurd h List.not_mem_nil⟩⟩⟩⟩⟩⟩⟩⟩⟩⟩⟩⟩⟩⟩⟩⟩⟩⟩⟩⟩⟩⟩⟩⟩
theorem sfa6 : ∀ q ∈ (tbl 6).2.2.2.2.2, SFe 6 q := fun _ h => absurd h List.not_mem_nil
theorem cf7_5 : CF 7 5 8 1 mX0_init := Or.inl ⟨rfl, (tg4 (List.mem_of_getElem? (i := 72) rfl) rfl)⟩
theorem cf7_13 : CF 7 13 3 1 mX8_init := Or.inr (Or.inr ⟨mfX8_init, Or.inr (Or.inr (Or.inr (Or.inl ⟨rfl, ⟨_, (List.mem_of_getElem? (i := 12) rfl)⟩, (tg1 (List.mem_of_getElem? (i := 195) rfl) rfl), rfl, rfl, pmX8_init⟩)))⟩)
theorem cf7_56 : CF 7 56 4 2 mJ7_fill_53178 := Or.inr (Or.inr ⟨mfJ7_fill_53178, Or.inr (Or.inr (Or.inr (Or.inr (Or.inl ⟨rfl, (tg4 (List.mem_of_getElem? (i := 76) rfl) rfl), (tg4 (List.mem_of_getElem? (i := 77) rfl) rfl), pmJ7_fill_53178⟩))))⟩)
theorem cf7_77 : CF 7 77 0 2 mX7_forgetGoer := Or.inr (Or.inr ⟨mfX7_forgetGoer, Or.inl ⟨rfl, (tg4 (List.mem_of_getElem? (i := 129) rfl) rfl), (tg4 (List.mem_of_getElem? (i := 131) rfl) rfl), (tp3 (List.mem_of_getElem? (i := 11) rfl)), pmX7_forgetGoer, by decide⟩⟩)
theorem cf7_81 : CF 7 81 0 2 mX8_become := Or.inr (Or.inr ⟨mfX8_become, Or.inl ⟨rfl, (tg4 (List.mem_of_getElem? (i := 134) rfl) rfl), (tg3 (List.mem_of_getElem? (i := 201) rfl) rfl), (tg3 (List.mem_of_getElem? (i := 202) rfl) rfl), pmX8_become, by decide⟩⟩)
theorem cf7_89 : CF 7 89 5 2 mX11_stateOf := Or.inr (Or.inr ⟨mfX11_stateOf, Or.inr (Or.inr (Or.inr (Or.inr (Or.inr (⟨rfl, ⟨_, (List.mem_of_getElem? (i := 13) rfl)⟩, (tg4 (List.mem_of_getElem? (i := 140) rfl) rfl), pmX11_stateOf⟩)))))⟩)
theorem cf7_93 : CF 7 93 0 4 mX7_find := Or.inr (Or.inr ⟨mfX7_find, Or.inl ⟨rfl, (tg4 (List.mem_of_getElem? (i := 142) rfl) rfl), (tg4 (List.mem_of_getElem? (i := 144) rfl) rfl), (tp3 (List.mem_of_getElem? (i := 12) rfl)), pmX7_find, by decide⟩⟩)
theorem cf7_97 : CF 7 97 5 2 mX11_has := Or.inr (Or.inr ⟨mfX11_has, Or.inr (Or.inr (Or.inr (Or.inr (Or.inr (⟨rfl, ⟨_, (List.mem_of_getElem? (i := 14) rfl)⟩, (tg3 (List.mem_of_getElem? (i := 142) rfl) rfl), pmX11_has⟩)))))⟩)
theorem cf7_101 : CF 7 101 0 3 mX7_after := Or.inr (Or.inr ⟨mfX7_after, Or.inl ⟨rfl, (tg4 (List.mem_of_getElem? (i := 147) rfl) rfl), (tg4 (List.mem_of_getElem? (i := 149) rfl) rfl), (tp3 (List.mem_of_getElem? (i := 13) rfl)), pmX7_after, by decide⟩⟩)
theorem cf7_104 : CF 7 104 5 1 mX11_boardOf := Or.inr (Or.inr ⟨mfX11_boardOf, Or.inr (Or.inr (Or.inr (Or.inr (Or.inr (⟨rfl, ⟨_, (List.mem_of_getElem? (i := 15) rfl)⟩, (tg4 (List.mem_of_getElem? (i := 152) rfl) rfl), pmX11_boardOf⟩)))))⟩)
theorem cf7_108 : CF 7 108 5 1 mX11_thingsOf := Or.inr (Or.inr ⟨mfX11_thingsOf, Or.inr (Or.inr (Or.inr (Or.inr (Or.inr (⟨rfl, ⟨_, (List.mem_of_getElem? (i := 16) rfl)⟩, (tg4 (List.mem_of_getElem? (i := 155) rfl) rfl), pmX11_thingsOf⟩)))))⟩)
theorem cf7_111 : CF 7 111 0 6 mX0_look := Or.inr (Or.inr ⟨mfX0_look, Or.inl ⟨rfl, (tg4 (List.mem_of_getElem? (i := 157) rfl) rfl), (tg3 (List.mem_of_getElem? (i := 153) rfl) rfl), (tg3 (List.mem_of_getElem? (i := 154) rfl) rfl), pmX0_look, by decide⟩⟩)
theorem cf7_121 : CF 7 121 0 2 mX7_thingsAt := Or.inr (Or.inr ⟨mfX7_thingsAt, Or.inl ⟨rfl, (tg4 (List.mem_of_getElem? (i := 162) rfl) rfl), (tg4 (List.mem_of_getElem? (i := 163) rfl) rfl), (tg4 (List.mem_of_getElem? (i := 164) rfl) rfl), pmX7_thingsAt, by decide⟩⟩)
theorem cf7_124 : CF 7 124 0 2 mX7_boardAt := Or.inr (Or.inr ⟨mfX7_boardAt, Or.inl ⟨rfl, (tg4 (List.mem_of_getElem? (i := 186) rfl) rfl), (tg4 (List.mem_of_getElem? (i := 187) rfl) rfl), (tg4 (List.mem_of_getElem? (i := 188) rfl) rfl), pmX7_boardAt, by decide⟩⟩)
theorem cf7_127 : CF 7 127 0 2 mX7_explore := Or.inr (Or.inr ⟨mfX7_explore, Or.inl ⟨rfl, (tg5 (List.mem_of_getElem? (i := 36) rfl) rfl), (tg4 (List.mem_of_getElem? (i := 136) rfl) rfl), (tg4 (List.mem_of_getElem? (i := 137) rfl) rfl), pmX7_explore, by decide⟩⟩)
theorem cfa7 : ∀ q ∈ (tbl 7).2.1, CFe 7 q := List.forall_mem_cons.mpr ⟨cf7_5, List.forall_mem_cons.mpr ⟨cf7_13, List.forall_mem_cons.mpr ⟨cf7_56, List.forall_mem_cons.mpr ⟨cf7_77, List.forall_mem_cons.mpr ⟨cf7_81, List.forall_mem_cons.mpr ⟨cf7_89, List.forall_mem_cons.mpr ⟨cf7_93, List.forall_mem_cons.mpr ⟨cf7_97, List.forall_mem_cons.mpr ⟨cf7_101, List.forall_mem_cons.mpr ⟨cf7_104, List.forall_mem_cons.mpr ⟨cf7_108, List.forall_mem_cons.mpr ⟨cf7_111, List.forall_mem_cons.mpr ⟨cf7_121, List.forall_mem_cons.mpr ⟨cf7_124, List.forall_mem_cons.mpr ⟨cf7_127, fun _ h => absurd h List.not_mem_nil⟩⟩⟩⟩⟩⟩⟩⟩⟩⟩⟩⟩⟩⟩⟩
theorem kf7_18 : KF 7 18 (.inl (38400)) := Or.inl ⟨38400, rfl, by unfold in32; omega, (tg4 (List.mem_of_getElem? (i := 75) rfl) rfl)⟩
theorem kf7_85 : KF 7 85 (.inl (100000)) := Or.inl ⟨100000, rfl, by unfold in32; omega, (tg4 (List.mem_of_getElem? (i := 133) rfl) rfl)⟩
theorem kfa7 : ∀ q ∈ (tbl 7).2.2.1, KFe 7 q := List.forall_mem_cons.mpr ⟨kf7_18, List.forall_mem_cons.mpr ⟨kf7_85, fun _ h => absurd h List.not_mem_nil⟩⟩
theorem sfa7 : ∀ q ∈ (tbl 7).2.2.2.2.2, SFe 7 q := fun _ h => absurd h List.not_mem_nil
theorem cf8_3 : CF 8 3 8 1 mX0_init := Or.inl ⟨rfl, (tg1 (List.mem_of_getElem? (i := 197) rfl) rfl)⟩
theorem cf8_32 : CF 8 32 9 5 mX0_init := Or.inr (Or.inl ⟨rfl, (tg3 (List.mem_of_getElem? (i := 124) rfl) rfl)⟩)
theorem cfa8 : ∀ q ∈ (tbl 8).2.1, CFe 8 q := List.forall_mem_cons.mpr ⟨cf8_3, List.forall_mem_cons.mpr ⟨cf8_32, fun _ h => absurd h List.not_mem_nil⟩⟩
theorem kfa8 : ∀ q ∈ (tbl 8).2.2.1, KFe 8 q := fun _ h => absurd h List.not_mem_nil
theorem sfa8 : ∀ q ∈ (tbl 8).2.2.2.2.2, SFe 8 q := fun _ h => absurd h List.not_mem_nil
theorem cf9_3 : CF 9 3 8 1 mX0_init := Or.inl ⟨rfl, (tg4 (List.mem_of_getElem? (i := 209) rfl) rfl)⟩
theorem cf9_35 : CF 9 35 4 2 mJ7_fill_53178 := Or.inr (Or.inr ⟨mfJ7_fill_53178, Or.inr (Or.inr (Or.inr (Or.inr (Or.inl ⟨rfl, (tg4 (List.mem_of_getElem? (i := 236) rfl) rfl), (tg4 (List.mem_of_getElem? (i := 77) rfl) rfl), pmJ7_fill_53178⟩))))⟩)
theorem cf9_41 : CF 9 41 0 1 mX9_seeNothing := Or.inr (Or.inr ⟨mfX9_seeNothing, Or.inl ⟨rfl, (tg5 (List.mem_of_getElem? (i := 105) rfl) rfl), (tg4 (List.mem_of_getElem? (i := 233) rfl) rfl), (tg4 (List.mem_of_getElem? (i := 234) rfl) rfl), pmX9_seeNothing, by decide⟩⟩)
theorem cf9_53 : CF 9 53 0 2 mX7_boardAt := Or.inr (Or.inr ⟨mfX7_boardAt, Or.inl ⟨rfl, (tg5 (List.mem_of_getElem? (i := 21) rfl) rfl), (tg4 (List.mem_of_getElem? (i := 187) rfl) rfl), (tg4 (List.mem_of_getElem? (i := 188) rfl) rfl), pmX7_boardAt, by decide⟩⟩)
theorem cf9_59 : CF 9 59 0 2 mX9_spread := Or.inr (Or.inr ⟨mfX9_spread, Or.inl ⟨rfl, (tg5 (List.mem_of_getElem? (i := 1) rfl) rfl), (tg5 (List.mem_of_getElem? (i := 3) rfl) rfl), (tp3 (List.mem_of_getElem? (i := 15) rfl)), pmX9_spread, by decide⟩⟩)
theorem cf9_72 : CF 9 72 9 5 mX0_init := Or.inr (Or.inl ⟨rfl, (tg6 (List.mem_of_getElem? (i := 9) rfl) rfl)⟩)
theorem cf9_78 : CF 9 78 0 1 mX5_allOdds := Or.inr (Or.inr ⟨mfX5_allOdds, Or.inl ⟨rfl, (tg6 (List.mem_of_getElem? (i := 10) rfl) rfl), (tg6 (List.mem_of_getElem? (i := 11) rfl) rfl), (tg6 (List.mem_of_getElem? (i := 12) rfl) rfl), pmX5_allOdds, by decide⟩⟩)
theorem cf9_82 : CF 9 82 0 2 mX9_clear := Or.inr (Or.inr ⟨mfX9_clear, Or.inl ⟨rfl, (tg5 (List.mem_of_getElem? (i := 5) rfl) rfl), (tg5 (List.mem_of_getElem? (i := 7) rfl) rfl), (tp4 (List.mem_of_getElem? (i := 0) rfl)), pmX9_clear, by decide⟩⟩)
theorem cf9_87 : CF 9 87 0 3 mX9_spreadFrom := Or.inr (Or.inr ⟨mfX9_spreadFrom, Or.inl ⟨rfl, (tg5 (List.mem_of_getElem? (i := 9) rfl) rfl), (tg5 (List.mem_of_getElem? (i := 11) rfl) rfl), (tp4 (List.mem_of_getElem? (i := 1) rfl)), pmX9_spreadFrom, by decide⟩⟩)
theorem cf9_94 : CF 9 94 0 3 mX7_placeAfter := Or.inr (Or.inr ⟨mfX7_placeAfter, Or.inl ⟨rfl, (tg5 (List.mem_of_getElem? (i := 13) rfl) rfl), (tg5 (List.mem_of_getElem? (i := 14) rfl) rfl), (tg5 (List.mem_of_getElem? (i := 15) rfl) rfl), pmX7_placeAfter, by decide⟩⟩)
theorem cf9_98 : CF 9 98 0 3 mX9_fits := Or.inr (Or.inr ⟨mfX9_fits, Or.inl ⟨rfl, (tg5 (List.mem_of_getElem? (i := 17) rfl) rfl), (tg5 (List.mem_of_getElem? (i := 19) rfl) rfl), (tp4 (List.mem_of_getElem? (i := 2) rfl)), pmX9_fits, by decide⟩⟩)
theorem cf9_102 : CF 9 102 0 2 mX7_thingsAt := Or.inr (Or.inr ⟨mfX7_thingsAt, Or.inl ⟨rfl, (tg5 (List.mem_of_getElem? (i := 26) rfl) rfl), (tg4 (List.mem_of_getElem? (i := 163) rfl) rfl), (tg4 (List.mem_of_getElem? (i := 164) rfl) rfl), pmX7_thingsAt, by decide⟩⟩)
theorem cf9_105 : CF 9 105 5 2 mX11_has := Or.inr (Or.inr ⟨mfX11_has, Or.inr (Or.inr (Or.inr (Or.inr (Or.inr (⟨rfl, ⟨_, (List.mem_of_getElem? (i := 17) rfl)⟩, (tg3 (List.mem_of_getElem? (i := 142) rfl) rfl), pmX11_has⟩)))))⟩)
theorem cf9_108 : CF 9 108 0 3 mX9_firstOf := Or.inr (Or.inr ⟨mfX9_firstOf, Or.inl ⟨rfl, (tg5 (List.mem_of_getElem? (i := 118) rfl) rfl), (tg5 (List.mem_of_getElem? (i := 120) rfl) rfl), (tp4 (List.mem_of_getElem? (i := 4) rfl)), pmX9_firstOf, by decide⟩⟩)
theorem cf9_111 : CF 9 111 0 4 mX9_leads := Or.inr (Or.inr ⟨mfX9_leads, Or.inl ⟨rfl, (tg5 (List.mem_of_getElem? (i := 122) rfl) rfl), (tg5 (List.mem_of_getElem? (i := 124) rfl) rfl), (tp4 (List.mem_of_getElem? (i := 5) rfl)), pmX9_leads, by decide⟩⟩)
theorem cf9_115 : CF 9 115 0 3 mX9_goersFrom := Or.inr (Or.inr ⟨mfX9_goersFrom, Or.inl ⟨rfl, (tg5 (List.mem_of_getElem? (i := 138) rfl) rfl), (tg5 (List.mem_of_getElem? (i := 140) rfl) rfl), (tp4 (List.mem_of_getElem? (i := 6) rfl)), pmX9_goersFrom, by decide⟩⟩)
theorem cfa9 : ∀ q ∈ (tbl 9).2.1, CFe 9 q := List.forall_mem_cons.mpr ⟨cf9_3, List.forall_mem_cons.mpr ⟨cf9_35, List.forall_mem_cons.mpr ⟨cf9_41, List.forall_mem_cons.mpr ⟨cf9_53, List.forall_mem_cons.mpr ⟨cf9_59, List.forall_mem_cons.mpr ⟨cf9_72, List.forall_mem_cons.mpr ⟨cf9_78, List.forall_mem_cons.mpr ⟨cf9_82, List.forall_mem_cons.mpr ⟨cf9_87, List.forall_mem_cons.mpr ⟨cf9_94, List.forall_mem_cons.mpr ⟨cf9_98, List.forall_mem_cons.mpr ⟨cf9_102, List.forall_mem_cons.mpr ⟨cf9_105, List.forall_mem_cons.mpr ⟨cf9_108, List.forall_mem_cons.mpr ⟨cf9_111, List.forall_mem_cons.mpr ⟨cf9_115, fun _ h => absurd h List.not_mem_nil⟩⟩⟩⟩⟩⟩⟩⟩⟩⟩⟩⟩⟩⟩⟩⟩
theorem kfa9 : ∀ q ∈ (tbl 9).2.2.1, KFe 9 q := fun _ h => absurd h List.not_mem_nil
theorem sfa9 : ∀ q ∈ (tbl 9).2.2.2.2.2, SFe 9 q := fun _ h => absurd h List.not_mem_nil
theorem cf10_3 : CF 10 3 8 1 mX0_init := Or.inl ⟨rfl, (tg2 (List.mem_of_getElem? (i := 9) rfl) rfl)⟩
theorem cf10_26 : CF 10 26 4 2 mJ7_fill_d0a16 := Or.inr (Or.inr ⟨mfJ7_fill_d0a16, Or.inr (Or.inr (Or.inr (Or.inr (Or.inl ⟨rfl, (tg6 (List.mem_of_getElem? (i := 29) rfl) rfl), (tg6 (List.mem_of_getElem? (i := 30) rfl) rfl), pmJ7_fill_d0a16⟩))))⟩)
theorem cfa10 : ∀ q ∈ (tbl 10).2.1, CFe 10 q := List.forall_mem_cons.mpr ⟨cf10_3, List.forall_mem_cons.mpr ⟨cf10_26, fun _ h => absurd h List.not_mem_nil⟩⟩
theorem kfa10 : ∀ q ∈ (tbl 10).2.2.1, KFe 10 q := fun _ h => absurd h List.not_mem_nil
theorem sfa10 : ∀ q ∈ (tbl 10).2.2.2.2.2, SFe 10 q := fun _ h => absurd h List.not_mem_nil
theorem cf11_3 : CF 11 3 8 1 mX0_init := Or.inl ⟨rfl, (tg1 (List.mem_of_getElem? (i := 29) rfl) rfl)⟩
theorem cf11_11 : CF 11 11 3 1 mX6_init := Or.inr (Or.inr ⟨mfX6_init, Or.inr (Or.inr (Or.inr (Or.inl ⟨rfl, ⟨_, (List.mem_of_getElem? (i := 0) rfl)⟩, (tg1 (List.mem_of_getElem? (i := 35) rfl) rfl), rfl, rfl, pmX6_init⟩)))⟩)
theorem cf11_18 : CF 11 18 3 1 mX0_init := Or.inr (Or.inr ⟨mfX0_init, Or.inr (Or.inr (Or.inr (Or.inl ⟨rfl, ⟨_, (List.mem_of_getElem? (i := 3) rfl)⟩, (tg1 (List.mem_of_getElem? (i := 165) rfl) rfl), rfl, rfl, pmX0_init⟩)))⟩)
theorem cf11_25 : CF 11 25 3 1 mX8_init := Or.inr (Or.inr ⟨mfX8_init, Or.inr (Or.inr (Or.inr (Or.inl ⟨rfl, ⟨_, (List.mem_of_getElem? (i := 4) rfl)⟩, (tg1 (List.mem_of_getElem? (i := 195) rfl) rfl), rfl, rfl, pmX8_init⟩)))⟩)
theorem cf11_35 : CF 11 35 2 1 mX4_init := Or.inr (Or.inr ⟨mfX4_init, Or.inr (Or.inr (Or.inl ⟨rfl, (tg1 (List.mem_of_getElem? (i := 223) rfl) rfl), (tg1 (List.mem_of_getElem? (i := 224) rfl) rfl), rfl, rfl, pmX4_init⟩))⟩)
theorem cf11_42 : CF 11 42 3 1 mX5_init := Or.inr (Or.inr ⟨mfX5_init, Or.inr (Or.inr (Or.inr (Or.inl ⟨rfl, ⟨_, (List.mem_of_getElem? (i := 6) rfl)⟩, (tg1 (List.mem_of_getElem? (i := 41) rfl) rfl), rfl, rfl, pmX5_init⟩)))⟩)
theorem cf11_49 : CF 11 49 3 1 mX10_init := Or.inr (Or.inr ⟨mfX10_init, Or.inr (Or.inr (Or.inr (Or.inl ⟨rfl, ⟨_, (List.mem_of_getElem? (i := 7) rfl)⟩, (tg2 (List.mem_of_getElem? (i := 7) rfl) rfl), rfl, rfl, pmX10_init⟩)))⟩)
theorem cf11_56 : CF 11 56 3 1 mX2_init := Or.inr (Or.inr ⟨mfX2_init, Or.inr (Or.inr (Or.inr (Or.inl ⟨rfl, ⟨_, (List.mem_of_getElem? (i := 8) rfl)⟩, (tg2 (List.mem_of_getElem? (i := 33) rfl) rfl), rfl, rfl, pmX2_init⟩)))⟩)
theorem cf11_65 : CF 11 65 0 2 mX6_add := Or.inr (Or.inr ⟨mfX6_add, Or.inl ⟨rfl, (tg2 (List.mem_of_getElem? (i := 90) rfl) rfl), (tg2 (List.mem_of_getElem? (i := 91) rfl) rfl), (tg2 (List.mem_of_getElem? (i := 92) rfl) rfl), pmX6_add, by decide⟩⟩)
theorem cf11_69 : CF 11 69 0 3 mX6_read := Or.inr (Or.inr ⟨mfX6_read, Or.inl ⟨rfl, (tg2 (List.mem_of_getElem? (i := 98) rfl) rfl), (tg2 (List.mem_of_getElem? (i := 99) rfl) rfl), (tg2 (List.mem_of_getElem? (i := 100) rfl) rfl), pmX6_read, by decide⟩⟩)
theorem cf11_76 : CF 11 76 0 2 mX8_begin := Or.inr (Or.inr ⟨mfX8_begin, Or.inl ⟨rfl, (tg3 (List.mem_of_getElem? (i := 120) rfl) rfl), (tg3 (List.mem_of_getElem? (i := 121) rfl) rfl), (tg3 (List.mem_of_getElem? (i := 122) rfl) rfl), pmX8_begin, by decide⟩⟩)
theorem cf11_80 : CF 11 80 0 1 mX4_forget := Or.inr (Or.inr ⟨mfX4_forget, Or.inl ⟨rfl, (tg3 (List.mem_of_getElem? (i := 125) rfl) rfl), (tg3 (List.mem_of_getElem? (i := 126) rfl) rfl), (tg3 (List.mem_of_getElem? (i := 127) rfl) rfl), pmX4_forget, by decide⟩⟩)
theorem cf11_89 : CF 11 89 0 2 mX11_isThing := Or.inr (Or.inr ⟨mfX11_isThing, Or.inl ⟨rfl, (tg3 (List.mem_of_getElem? (i := 137) rfl) rfl), (tg3 (List.mem_of_getElem? (i := 139) rfl) rfl), (tp2 (List.mem_of_getElem? (i := 10) rfl)), pmX11_isThing, by decide⟩⟩)
theorem cf11_106 : CF 11 106 4 2 mX11_has := Or.inr (Or.inr ⟨mfX11_has, Or.inr (Or.inr (Or.inr (Or.inr (Or.inl ⟨rfl, (tg3 (List.mem_of_getElem? (i := 141) rfl) rfl), (tg3 (List.mem_of_getElem? (i := 142) rfl) rfl), pmX11_has⟩))))⟩)
theorem cf11_110 : CF 11 110 0 2 mX11_isGoer := Or.inr (Or.inr ⟨mfX11_isGoer, Or.inl ⟨rfl, (tg3 (List.mem_of_getElem? (i := 148) rfl) rfl), (tg3 (List.mem_of_getElem? (i := 150) rfl) rfl), (tp2 (List.mem_of_getElem? (i := 11) rfl)), pmX11_isGoer, by decide⟩⟩)
theorem cf11_116 : CF 11 116 0 6 mX0_look := Or.inr (Or.inr ⟨mfX0_look, Or.inl ⟨rfl, (tg3 (List.mem_of_getElem? (i := 152) rfl) rfl), (tg3 (List.mem_of_getElem? (i := 153) rfl) rfl), (tg3 (List.mem_of_getElem? (i := 154) rfl) rfl), pmX0_look, by decide⟩⟩)
theorem cf11_139 : CF 11 139 0 2 mX4_mark := Or.inr (Or.inr ⟨mfX4_mark, Or.inl ⟨rfl, (tg3 (List.mem_of_getElem? (i := 196) rfl) rfl), (tg3 (List.mem_of_getElem? (i := 197) rfl) rfl), (tg3 (List.mem_of_getElem? (i := 198) rfl) rfl), pmX4_mark, by decide⟩⟩)
theorem cf11_143 : CF 11 143 0 3 mX11_actDive := Or.inr (Or.inr ⟨mfX11_actDive, Or.inl ⟨rfl, (tg3 (List.mem_of_getElem? (i := 204) rfl) rfl), (tg3 (List.mem_of_getElem? (i := 206) rfl) rfl), (tp2 (List.mem_of_getElem? (i := 15) rfl)), pmX11_actDive, by decide⟩⟩)
theorem cf11_147 : CF 11 147 0 1 mX4_keep := Or.inr (Or.inr ⟨mfX4_keep, Or.inl ⟨rfl, (tg3 (List.mem_of_getElem? (i := 208) rfl) rfl), (tg3 (List.mem_of_getElem? (i := 209) rfl) rfl), (tg3 (List.mem_of_getElem? (i := 210) rfl) rfl), pmX4_keep, by decide⟩⟩)
theorem cf11_150 : CF 11 150 0 4 mX11_actSay := Or.inr (Or.inr ⟨mfX11_actSay, Or.inl ⟨rfl, (tg3 (List.mem_of_getElem? (i := 217) rfl) rfl), (tg3 (List.mem_of_getElem? (i := 219) rfl) rfl), (tp3 (List.mem_of_getElem? (i := 0) rfl)), pmX11_actSay, by decide⟩⟩)
theorem cf11_154 : CF 11 154 0 3 mX11_actWipe := Or.inr (Or.inr ⟨mfX11_actWipe, Or.inl ⟨rfl, (tg3 (List.mem_of_getElem? (i := 225) rfl) rfl), (tg3 (List.mem_of_getElem? (i := 227) rfl) rfl), (tp3 (List.mem_of_getElem? (i := 1) rfl)), pmX11_actWipe, by decide⟩⟩)
theorem cf11_157 : CF 11 157 4 1 mJ6_bitCount_0f7a4 := Or.inr (Or.inr ⟨mfJ6_bitCount_0f7a4, Or.inr (Or.inr (Or.inr (Or.inr (Or.inl ⟨rfl, (tg3 (List.mem_of_getElem? (i := 229) rfl) rfl), (tg3 (List.mem_of_getElem? (i := 157) rfl) rfl), pmJ6_bitCount_0f7a4⟩))))⟩)
theorem cf11_163 : CF 11 163 0 4 mX11_actBold := Or.inr (Or.inr ⟨mfX11_actBold, Or.inl ⟨rfl, (tg3 (List.mem_of_getElem? (i := 238) rfl) rfl), (tg4 (List.mem_of_getElem? (i := 0) rfl) rfl), (tp3 (List.mem_of_getElem? (i := 2) rfl)), pmX11_actBold, by decide⟩⟩)
theorem cf11_169 : CF 11 169 0 3 mX4_bringBack := Or.inr (Or.inr ⟨mfX4_bringBack, Or.inl ⟨rfl, (tg4 (List.mem_of_getElem? (i := 6) rfl) rfl), (tg4 (List.mem_of_getElem? (i := 7) rfl) rfl), (tg4 (List.mem_of_getElem? (i := 8) rfl) rfl), pmX4_bringBack, by decide⟩⟩)
theorem cf11_173 : CF 11 173 0 2 mX11_isTray := Or.inr (Or.inr ⟨mfX11_isTray, Or.inl ⟨rfl, (tg4 (List.mem_of_getElem? (i := 14) rfl) rfl), (tg4 (List.mem_of_getElem? (i := 16) rfl) rfl), (tp3 (List.mem_of_getElem? (i := 3) rfl)), pmX11_isTray, by decide⟩⟩)
theorem cf11_180 : CF 11 180 0 2 mX8_become := Or.inr (Or.inr ⟨mfX8_become, Or.inl ⟨rfl, (tg4 (List.mem_of_getElem? (i := 18) rfl) rfl), (tg3 (List.mem_of_getElem? (i := 201) rfl) rfl), (tg3 (List.mem_of_getElem? (i := 202) rfl) rfl), pmX8_become, by decide⟩⟩)
theorem cf11_183 : CF 11 183 0 3 mX11_actAll := Or.inr (Or.inr ⟨mfX11_actAll, Or.inl ⟨rfl, (tg4 (List.mem_of_getElem? (i := 19) rfl) rfl), (tg4 (List.mem_of_getElem? (i := 21) rfl) rfl), (tp3 (List.mem_of_getElem? (i := 4) rfl)), pmX11_actAll, by decide⟩⟩)
theorem cf11_192 : CF 11 192 0 3 mX11_act := Or.inr (Or.inr ⟨mfX11_act, Or.inl ⟨rfl, (tg4 (List.mem_of_getElem? (i := 23) rfl) rfl), (tg4 (List.mem_of_getElem? (i := 25) rfl) rfl), (tp3 (List.mem_of_getElem? (i := 5) rfl)), pmX11_act, by decide⟩⟩)
theorem cf11_196 : CF 11 196 4 1 mX11_drawnNext := Or.inr (Or.inr ⟨mfX11_drawnNext, Or.inr (Or.inr (Or.inr (Or.inr (Or.inl ⟨rfl, (tg4 (List.mem_of_getElem? (i := 36) rfl) rfl), (tg4 (List.mem_of_getElem? (i := 37) rfl) rfl), pmX11_drawnNext⟩))))⟩)
theorem cf11_199 : CF 11 199 4 1 mX11_drawn := Or.inr (Or.inr ⟨mfX11_drawn, Or.inr (Or.inr (Or.inr (Or.inr (Or.inl ⟨rfl, (tg4 (List.mem_of_getElem? (i := 40) rfl) rfl), (tg4 (List.mem_of_getElem? (i := 41) rfl) rfl), pmX11_drawn⟩))))⟩)
theorem cf11_202 : CF 11 202 0 3 mX11_comingRefused := Or.inr (Or.inr ⟨mfX11_comingRefused, Or.inl ⟨rfl, (tg4 (List.mem_of_getElem? (i := 47) rfl) rfl), (tg4 (List.mem_of_getElem? (i := 49) rfl) rfl), (tp3 (List.mem_of_getElem? (i := 6) rfl)), pmX11_comingRefused, by decide⟩⟩)
theorem cf11_206 : CF 11 206 0 2 mX11_explored := Or.inr (Or.inr ⟨mfX11_explored, Or.inl ⟨rfl, (tg4 (List.mem_of_getElem? (i := 59) rfl) rfl), (tg4 (List.mem_of_getElem? (i := 61) rfl) rfl), (tp3 (List.mem_of_getElem? (i := 9) rfl)), pmX11_explored, by decide⟩⟩)
theorem cf11_210 : CF 11 210 0 2 mX7_placeOfThing := Or.inr (Or.inr ⟨mfX7_placeOfThing, Or.inl ⟨rfl, (tg4 (List.mem_of_getElem? (i := 158) rfl) rfl), (tg4 (List.mem_of_getElem? (i := 159) rfl) rfl), (tg4 (List.mem_of_getElem? (i := 160) rfl) rfl), pmX7_placeOfThing, by decide⟩⟩)
theorem cf11_215 : CF 11 215 0 2 mX7_divesTo := Or.inr (Or.inr ⟨mfX7_divesTo, Or.inl ⟨rfl, (tg4 (List.mem_of_getElem? (i := 166) rfl) rfl), (tg4 (List.mem_of_getElem? (i := 167) rfl) rfl), (tg4 (List.mem_of_getElem? (i := 168) rfl) rfl), pmX7_divesTo, by decide⟩⟩)
theorem cf11_218 : CF 11 218 0 3 mX7_goerTo := Or.inr (Or.inr ⟨mfX7_goerTo, Or.inl ⟨rfl, (tg4 (List.mem_of_getElem? (i := 174) rfl) rfl), (tg4 (List.mem_of_getElem? (i := 175) rfl) rfl), (tg4 (List.mem_of_getElem? (i := 176) rfl) rfl), pmX7_goerTo, by decide⟩⟩)
theorem cf11_221 : CF 11 221 0 2 mX11_isSet := Or.inr (Or.inr ⟨mfX11_isSet, Or.inl ⟨rfl, (tg4 (List.mem_of_getElem? (i := 51) rfl) rfl), (tg4 (List.mem_of_getElem? (i := 53) rfl) rfl), (tp3 (List.mem_of_getElem? (i := 7) rfl)), pmX11_isSet, by decide⟩⟩)
theorem cf11_224 : CF 11 224 0 2 mX7_placeOfBoard := Or.inr (Or.inr ⟨mfX7_placeOfBoard, Or.inl ⟨rfl, (tg4 (List.mem_of_getElem? (i := 182) rfl) rfl), (tg4 (List.mem_of_getElem? (i := 183) rfl) rfl), (tg4 (List.mem_of_getElem? (i := 184) rfl) rfl), pmX7_placeOfBoard, by decide⟩⟩)
theorem cf11_231 : CF 11 231 0 1 mX11_tallyOfAll := Or.inr (Or.inr ⟨mfX11_tallyOfAll, Or.inl ⟨rfl, (tg4 (List.mem_of_getElem? (i := 200) rfl) rfl), (tg4 (List.mem_of_getElem? (i := 202) rfl) rfl), (tp3 (List.mem_of_getElem? (i := 14) rfl)), pmX11_tallyOfAll, by decide⟩⟩)
theorem cf11_235 : CF 11 235 0 1 mX9_seeNothing := Or.inr (Or.inr ⟨mfX9_seeNothing, Or.inl ⟨rfl, (tg4 (List.mem_of_getElem? (i := 232) rfl) rfl), (tg4 (List.mem_of_getElem? (i := 233) rfl) rfl), (tg4 (List.mem_of_getElem? (i := 234) rfl) rfl), pmX9_seeNothing, by decide⟩⟩)
theorem cf11_240 : CF 11 240 0 2 mX9_spreadAlike := Or.inr (Or.inr ⟨mfX9_spreadAlike, Or.inl ⟨rfl, (tg4 (List.mem_of_getElem? (i := 237) rfl) rfl), (tg4 (List.mem_of_getElem? (i := 238) rfl) rfl), (tg4 (List.mem_of_getElem? (i := 239) rfl) rfl), pmX9_spreadAlike, by decide⟩⟩)
theorem cf11_243 : CF 11 243 0 2 mX9_totalWith := Or.inr (Or.inr ⟨mfX9_totalWith, Or.inl ⟨rfl, (tg5 (List.mem_of_getElem? (i := 22) rfl) rfl), (tg5 (List.mem_of_getElem? (i := 23) rfl) rfl), (tg5 (List.mem_of_getElem? (i := 24) rfl) rfl), pmX9_totalWith, by decide⟩⟩)
theorem cf11_247 : CF 11 247 0 1 mX11_ready := Or.inr (Or.inr ⟨mfX11_ready, Or.inl ⟨rfl, (tg4 (List.mem_of_getElem? (i := 63) rfl) rfl), (tg4 (List.mem_of_getElem? (i := 65) rfl) rfl), (tp3 (List.mem_of_getElem? (i := 10) rfl)), pmX11_ready, by decide⟩⟩)
theorem cf11_251 : CF 11 251 0 1 mX11_allGoers := Or.inr (Or.inr ⟨mfX11_allGoers, Or.inl ⟨rfl, (tg4 (List.mem_of_getElem? (i := 55) rfl) rfl), (tg4 (List.mem_of_getElem? (i := 57) rfl) rfl), (tp3 (List.mem_of_getElem? (i := 8) rfl)), pmX11_allGoers, by decide⟩⟩)
theorem cf11_255 : CF 11 255 0 2 mX7_canBe := Or.inr (Or.inr ⟨mfX7_canBe, Or.inl ⟨rfl, (tg5 (List.mem_of_getElem? (i := 32) rfl) rfl), (tg5 (List.mem_of_getElem? (i := 33) rfl) rfl), (tg5 (List.mem_of_getElem? (i := 34) rfl) rfl), pmX7_canBe, by decide⟩⟩)
theorem cf11_262 : CF 11 262 4 1 mX11_boardOf := Or.inr (Or.inr ⟨mfX11_boardOf, Or.inr (Or.inr (Or.inr (Or.inr (Or.inl ⟨rfl, (tg5 (List.mem_of_getElem? (i := 45) rfl) rfl), (tg4 (List.mem_of_getElem? (i := 152) rfl) rfl), pmX11_boardOf⟩))))⟩)
theorem cf11_265 : CF 11 265 4 2 mJ9_max_7cf53 := Or.inr (Or.inr ⟨mfJ9_max_7cf53, Or.inr (Or.inr (Or.inr (Or.inr (Or.inl ⟨rfl, (tg5 (List.mem_of_getElem? (i := 46) rfl) rfl), (tg2 (List.mem_of_getElem? (i := 157) rfl) rfl), pmJ9_max_7cf53⟩))))⟩)
theorem cf11_270 : CF 11 270 4 2 mJ9_min_7cf53 := Or.inr (Or.inr ⟨mfJ9_min_7cf53, Or.inr (Or.inr (Or.inr (Or.inr (Or.inl ⟨rfl, (tg5 (List.mem_of_getElem? (i := 51) rfl) rfl), (tg2 (List.mem_of_getElem? (i := 160) rfl) rfl), pmJ9_min_7cf53⟩))))⟩)
theorem cf11_275 : CF 11 275 3 1 mX3_init := Or.inr (Or.inr ⟨mfX3_init, Or.inr (Or.inr (Or.inr (Or.inl ⟨rfl, ⟨_, (List.mem_of_getElem? (i := 18) rfl)⟩, (tg5 (List.mem_of_getElem? (i := 59) rfl) rfl), rfl, rfl, pmX3_init⟩)))⟩)
theorem cf11_276 : CF 11 276 0 2 mX3_add := Or.inr (Or.inr ⟨mfX3_add, Or.inl ⟨rfl, (tg5 (List.mem_of_getElem? (i := 69) rfl) rfl), (tg5 (List.mem_of_getElem? (i := 70) rfl) rfl), (tg5 (List.mem_of_getElem? (i := 71) rfl) rfl), pmX3_add, by decide⟩⟩)
theorem cf11_277 : CF 11 277 0 1 mX3_size := Or.inr (Or.inr ⟨mfX3_size, Or.inl ⟨rfl, (tg5 (List.mem_of_getElem? (i := 73) rfl) rfl), (tg5 (List.mem_of_getElem? (i := 74) rfl) rfl), (tg5 (List.mem_of_getElem? (i := 75) rfl) rfl), pmX3_size, by decide⟩⟩)
theorem cf11_279 : CF 11 279 0 2 mX11_postedRefused := Or.inr (Or.inr ⟨mfX11_postedRefused, Or.inl ⟨rfl, (tg5 (List.mem_of_getElem? (i := 95) rfl) rfl), (tg5 (List.mem_of_getElem? (i := 97) rfl) rfl), (tp4 (List.mem_of_getElem? (i := 3) rfl)), pmX11_postedRefused, by decide⟩⟩)
theorem cf11_282 : CF 11 282 0 2 mX9_see := Or.inr (Or.inr ⟨mfX9_see, Or.inl ⟨rfl, (tg5 (List.mem_of_getElem? (i := 101) rfl) rfl), (tg5 (List.mem_of_getElem? (i := 102) rfl) rfl), (tg5 (List.mem_of_getElem? (i := 103) rfl) rfl), pmX9_see, by decide⟩⟩)
theorem cf11_286 : CF 11 286 0 1 mX9_totalOfAll := Or.inr (Or.inr ⟨mfX9_totalOfAll, Or.inl ⟨rfl, (tg5 (List.mem_of_getElem? (i := 106) rfl) rfl), (tg5 (List.mem_of_getElem? (i := 107) rfl) rfl), (tg5 (List.mem_of_getElem? (i := 108) rfl) rfl), pmX9_totalOfAll, by decide⟩⟩)
theorem cf11_290 : CF 11 290 0 2 mX9_markBack := Or.inr (Or.inr ⟨mfX9_markBack, Or.inl ⟨rfl, (tg5 (List.mem_of_getElem? (i := 114) rfl) rfl), (tg5 (List.mem_of_getElem? (i := 115) rfl) rfl), (tg5 (List.mem_of_getElem? (i := 116) rfl) rfl), pmX9_markBack, by decide⟩⟩)
theorem cf11_293 : CF 11 293 0 2 mX9_firstGoer := Or.inr (Or.inr ⟨mfX9_firstGoer, Or.inl ⟨rfl, (tg5 (List.mem_of_getElem? (i := 126) rfl) rfl), (tg5 (List.mem_of_getElem? (i := 127) rfl) rfl), (tg5 (List.mem_of_getElem? (i := 128) rfl) rfl), pmX9_firstGoer, by decide⟩⟩)
theorem cf11_296 : CF 11 296 0 2 mX9_goersOfAny := Or.inr (Or.inr ⟨mfX9_goersOfAny, Or.inl ⟨rfl, (tg5 (List.mem_of_getElem? (i := 134) rfl) rfl), (tg5 (List.mem_of_getElem? (i := 135) rfl) rfl), (tg5 (List.mem_of_getElem? (i := 136) rfl) rfl), pmX9_goersOfAny, by decide⟩⟩)
theorem cf11_299 : CF 11 299 0 3 mX11_aloneRefused := Or.inr (Or.inr ⟨mfX11_aloneRefused, Or.inl ⟨rfl, (tg5 (List.mem_of_getElem? (i := 146) rfl) rfl), (tg5 (List.mem_of_getElem? (i := 148) rfl) rfl), (tp4 (List.mem_of_getElem? (i := 7) rfl)), pmX11_aloneRefused, by decide⟩⟩)
theorem cf11_302 : CF 11 302 0 4 mX11_wentAlone := Or.inr (Or.inr ⟨mfX11_wentAlone, Or.inl ⟨rfl, (tg5 (List.mem_of_getElem? (i := 150) rfl) rfl), (tg5 (List.mem_of_getElem? (i := 152) rfl) rfl), (tp4 (List.mem_of_getElem? (i := 8) rfl)), pmX11_wentAlone, by decide⟩⟩)
theorem cf11_306 : CF 11 306 0 4 mX11_forcingRefused := Or.inr (Or.inr ⟨mfX11_forcingRefused, Or.inl ⟨rfl, (tg5 (List.mem_of_getElem? (i := 162) rfl) rfl), (tg5 (List.mem_of_getElem? (i := 164) rfl) rfl), (tp4 (List.mem_of_getElem? (i := 9) rfl)), pmX11_forcingRefused, by decide⟩⟩)
theorem cf11_310 : CF 11 310 0 3 mX11_gameOf := Or.inr (Or.inr ⟨mfX11_gameOf, Or.inl ⟨rfl, (tg5 (List.mem_of_getElem? (i := 166) rfl) rfl), (tg5 (List.mem_of_getElem? (i := 168) rfl) rfl), (tp4 (List.mem_of_getElem? (i := 10) rfl)), pmX11_gameOf, by decide⟩⟩)
theorem cf11_314 : CF 11 314 0 2 mX1_play := Or.inr (Or.inr ⟨mfX1_play, Or.inl ⟨rfl, (tg5 (List.mem_of_getElem? (i := 210) rfl) rfl), (tg5 (List.mem_of_getElem? (i := 211) rfl) rfl), (tg5 (List.mem_of_getElem? (i := 212) rfl) rfl), pmX1_play, by decide⟩⟩)
theorem cf11_319 : CF 11 319 0 2 mX1_firstBest := Or.inr (Or.inr ⟨mfX1_firstBest, Or.inl ⟨rfl, (tg5 (List.mem_of_getElem? (i := 233) rfl) rfl), (tg5 (List.mem_of_getElem? (i := 234) rfl) rfl), (tg5 (List.mem_of_getElem? (i := 235) rfl) rfl), pmX1_firstBest, by decide⟩⟩)
theorem cf11_323 : CF 11 323 0 2 mX9_spreadByOdds := Or.inr (Or.inr ⟨mfX9_spreadByOdds, Or.inl ⟨rfl, (tg6 (List.mem_of_getElem? (i := 5) rfl) rfl), (tg6 (List.mem_of_getElem? (i := 6) rfl) rfl), (tg6 (List.mem_of_getElem? (i := 7) rfl) rfl), pmX9_spreadByOdds, by decide⟩⟩)
theorem cf11_326 : CF 11 326 4 2 mX11_greatestShared := Or.inr (Or.inr ⟨mfX11_greatestShared, Or.inr (Or.inr (Or.inr (Or.inr (Or.inl ⟨rfl, (tg6 (List.mem_of_getElem? (i := 14) rfl) rfl), (tg6 (List.mem_of_getElem? (i := 15) rfl) rfl), pmX11_greatestShared⟩))))⟩)
theorem cf11_332 : CF 11 332 0 3 mX10_begin := Or.inr (Or.inr ⟨mfX10_begin, Or.inl ⟨rfl, (tg6 (List.mem_of_getElem? (i := 25) rfl) rfl), (tg6 (List.mem_of_getElem? (i := 26) rfl) rfl), (tg6 (List.mem_of_getElem? (i := 27) rfl) rfl), pmX10_begin, by decide⟩⟩)
theorem cf11_339 : CF 11 339 0 3 mX10_put := Or.inr (Or.inr ⟨mfX10_put, Or.inl ⟨rfl, (tg6 (List.mem_of_getElem? (i := 38) rfl) rfl), (tg6 (List.mem_of_getElem? (i := 39) rfl) rfl), (tg6 (List.mem_of_getElem? (i := 40) rfl) rfl), pmX10_put, by decide⟩⟩)
theorem cf11_350 : CF 11 350 0 1 mX5_allOdds := Or.inr (Or.inr ⟨mfX5_allOdds, Or.inl ⟨rfl, (tg6 (List.mem_of_getElem? (i := 58) rfl) rfl), (tg6 (List.mem_of_getElem? (i := 11) rfl) rfl), (tg6 (List.mem_of_getElem? (i := 12) rfl) rfl), pmX5_allOdds, by decide⟩⟩)
theorem cf11_353 : CF 11 353 0 1 mX5_greatestDepth := Or.inr (Or.inr ⟨mfX5_greatestDepth, Or.inl ⟨rfl, (tg6 (List.mem_of_getElem? (i := 59) rfl) rfl), (tg6 (List.mem_of_getElem? (i := 60) rfl) rfl), (tg6 (List.mem_of_getElem? (i := 61) rfl) rfl), pmX5_greatestDepth, by decide⟩⟩)
theorem cf11_364 : CF 11 364 2 3 mX7_init := Or.inr (Or.inr ⟨mfX7_init, Or.inr (Or.inr (Or.inl ⟨rfl, (tg4 (List.mem_of_getElem? (i := 69) rfl) rfl), (tg4 (List.mem_of_getElem? (i := 70) rfl) rfl), rfl, rfl, pmX7_init⟩))⟩)
theorem cf11_367 : CF 11 367 0 3 mX7_begin := Or.inr (Or.inr ⟨mfX7_begin, Or.inl ⟨rfl, (tg4 (List.mem_of_getElem? (i := 125) rfl) rfl), (tg4 (List.mem_of_getElem? (i := 126) rfl) rfl), (tg4 (List.mem_of_getElem? (i := 127) rfl) rfl), pmX7_begin, by decide⟩⟩)
theorem cf11_370 : CF 11 370 0 2 mX7_explore := Or.inr (Or.inr ⟨mfX7_explore, Or.inl ⟨rfl, (tg4 (List.mem_of_getElem? (i := 135) rfl) rfl), (tg4 (List.mem_of_getElem? (i := 136) rfl) rfl), (tg4 (List.mem_of_getElem? (i := 137) rfl) rfl), pmX7_explore, by decide⟩⟩)
theorem cf11_377 : CF 11 377 2 2 mX9_init := Or.inr (Or.inr ⟨mfX9_init, Or.inr (Or.inr (Or.inl ⟨rfl, (tg4 (List.mem_of_getElem? (i := 206) rfl) rfl), (tg4 (List.mem_of_getElem? (i := 207) rfl) rfl), rfl, rfl, pmX9_init⟩))⟩)
theorem cf11_384 : CF 11 384 2 2 mX1_init := Or.inr (Or.inr ⟨mfX1_init, Or.inr (Or.inr (Or.inl ⟨rfl, (tg5 (List.mem_of_getElem? (i := 172) rfl) rfl), (tg5 (List.mem_of_getElem? (i := 173) rfl) rfl), rfl, rfl, pmX1_init⟩))⟩)
theorem cf11_385 : CF 11 385 0 3 mX1_begin := Or.inr (Or.inr ⟨mfX1_begin, Or.inl ⟨rfl, (tg5 (List.mem_of_getElem? (i := 204) rfl) rfl), (tg5 (List.mem_of_getElem? (i := 205) rfl) rfl), (tg5 (List.mem_of_getElem? (i := 206) rfl) rfl), pmX1_begin, by decide⟩⟩)
theorem cfa11 : ∀ q ∈ (tbl 11).2.1, CFe 11 q := List.forall_mem_cons.mpr ⟨cf11_3, List.forall_mem_cons.mpr ⟨cf11_11, List.forall_mem_cons.mpr ⟨cf11_18, List.forall_mem_cons.mpr ⟨cf11_25, List.forall_mem_cons.mpr ⟨cf11_35, List.forall_mem_cons.mpr ⟨cf11_42, List.forall_mem_cons.mpr ⟨cf11_49, List.forall_mem_cons.mpr ⟨cf11_56, List.forall_mem_cons.mpr ⟨cf11_65, List.forall_mem_cons.mpr ⟨cf11_69, List.forall_mem_cons.mpr ⟨cf11_76, List.forall_mem_cons.mpr ⟨cf11_80, List.forall_mem_cons.mpr ⟨cf11_89, List.forall_mem_cons.mpr ⟨cf11_106, List.forall_mem_cons.mpr ⟨cf11_110, List.forall_mem_cons.mpr ⟨cf11_116, List.forall_mem_cons.mpr ⟨cf11_139, List.forall_mem_cons.mpr ⟨cf11_143, List.forall_mem_cons.mpr ⟨cf11_147, List.forall_mem_cons.mpr ⟨cf11_150, List.forall_mem_cons.mpr ⟨cf11_154, List.forall_mem_cons.mpr ⟨cf11_157, List.forall_mem_cons.mpr ⟨cf11_163, List.forall_mem_cons.mpr ⟨cf11_169, List.forall_mem_cons.mpr ⟨cf11_173, List.forall_mem_cons.mpr ⟨cf11_180, List.forall_mem_cons.mpr ⟨cf11_183, List.forall_mem_cons.mpr ⟨cf11_192, List.forall_mem_cons.mpr ⟨cf11_196, List.forall_mem_cons.mpr ⟨cf11_199, List.forall_mem_cons.mpr ⟨cf11_202, List.forall_mem_cons.mpr ⟨cf11_206, List.forall_mem_cons.mpr ⟨cf11_210, List.forall_mem_cons.mpr ⟨cf11_215, List.forall_mem_cons.mpr ⟨cf11_218, List.forall_mem_cons.mpr ⟨cf11_221, List.forall_mem_cons.mpr ⟨cf11_224, List.forall_mem_cons.mpr ⟨cf11_231, List.forall_mem_cons.mpr ⟨cf11_235, List.forall_mem_cons.mpr ⟨cf11_240, List.forall_mem_cons.mpr ⟨cf11_243, List.forall_mem_cons.mpr ⟨cf11_247, List.forall_mem_cons.mpr ⟨cf11_251, List.forall_mem_cons.mpr ⟨cf11_255, List.forall_mem_cons.mpr ⟨cf11_262, List.forall_mem_cons.mpr ⟨cf11_265, List.forall_mem_cons.mpr ⟨cf11_270, List.forall_mem_cons.mpr ⟨cf11_275, List.forall_mem_cons.mpr ⟨cf11_276, List.forall_mem_cons.mpr ⟨cf11_277, List.forall_mem_cons.mpr ⟨cf11_279, List.forall_mem_cons.mpr ⟨cf11_282, List.forall_mem_cons.mpr ⟨cf11_286, List.forall_mem_cons.mpr ⟨cf11_290, List.forall_mem_cons.mpr ⟨cf11_293, List.forall_mem_cons.mpr ⟨cf11_296, List.forall_mem_cons.mpr ⟨cf11_299, List.forall_mem_cons.mpr ⟨cf11_302, List.forall_mem_cons.mpr ⟨cf11_306, List.forall_mem_cons.mpr ⟨cf11_310, List.forall_mem_cons.mpr ⟨cf11_314, List.forall_mem_cons.mpr ⟨cf11_319, List.forall_mem_cons.mpr ⟨cf11_323, List.forall_mem_cons.mpr ⟨cf11_326, List.forall_mem_cons.mpr ⟨cf11_332, List.forall_mem_cons.mpr ⟨cf11_339, List.forall_mem_cons.mpr ⟨cf11_350, List.forall_mem_cons.mpr ⟨cf11_353, List.forall_mem_cons.mpr ⟨cf11_364, List.forall_mem_cons.mpr ⟨cf11_367, List.forall_mem_cons.mpr ⟨cf11_370, List.forall_mem_cons.mpr ⟨cf11_377, List.forall_mem_cons.mpr ⟨cf11_384, List.forall_mem_cons.mpr ⟨cf11_385, fun _ h => absurd h List.not_mem_nil⟩⟩⟩⟩⟩⟩⟩⟩⟩⟩⟩⟩⟩⟩⟩⟩⟩⟩⟩⟩⟩⟩⟩⟩⟩⟩⟩⟩⟩⟩⟩⟩⟩⟩⟩⟩⟩⟩⟩⟩⟩⟩⟩⟩⟩⟩⟩⟩⟩⟩⟩⟩⟩⟩⟩⟩⟩⟩⟩⟩⟩⟩⟩⟩⟩⟩⟩⟩⟩⟩⟩⟩⟩⟩
theorem kf11_227 : KF 11 227 (.inr (.inl (-2))) := Or.inr (Or.inl ⟨(-2), rfl, by unfold in64; omega, (tg4 (List.mem_of_getElem? (i := 198) rfl) rfl)⟩)
theorem kf11_229 : KF 11 229 (.inr (.inl (-3))) := Or.inr (Or.inl ⟨(-3), rfl, by unfold in64; omega, (tg4 (List.mem_of_getElem? (i := 199) rfl) rfl)⟩)
theorem kf11_330 : KF 11 330 (.inr (.inl (-1))) := Or.inr (Or.inl ⟨(-1), rfl, by unfold in64; omega, (tg5 (List.mem_of_getElem? (i := 99) rfl) rfl)⟩)
theorem kf11_335 : KF 11 335 (.inr (.inl (-6))) := Or.inr (Or.inl ⟨(-6), rfl, by unfold in64; omega, (tg6 (List.mem_of_getElem? (i := 36) rfl) rfl)⟩)
theorem kf11_337 : KF 11 337 (.inr (.inl (-7))) := Or.inr (Or.inl ⟨(-7), rfl, by unfold in64; omega, (tg6 (List.mem_of_getElem? (i := 37) rfl) rfl)⟩)
theorem kf11_356 : KF 11 356 (.inr (.inl (99))) := Or.inr (Or.inl ⟨(99), rfl, by unfold in64; omega, (tg5 (List.mem_of_getElem? (i := 100) rfl) rfl)⟩)
theorem kf11_358 : KF 11 358 (.inr (.inl (3099))) := Or.inr (Or.inl ⟨(3099), rfl, by unfold in64; omega, (tg4 (List.mem_of_getElem? (i := 27) rfl) rfl)⟩)
theorem kf11_386 : KF 11 386 (.inl (1103515245)) := Or.inl ⟨1103515245, rfl, by unfold in32; omega, (tg4 (List.mem_of_getElem? (i := 39) rfl) rfl)⟩
theorem kfa11 : ∀ q ∈ (tbl 11).2.2.1, KFe 11 q := List.forall_mem_cons.mpr ⟨kf11_227, List.forall_mem_cons.mpr ⟨kf11_229, List.forall_mem_cons.mpr ⟨kf11_330, List.forall_mem_cons.mpr ⟨kf11_335, List.forall_mem_cons.mpr ⟨kf11_337, List.forall_mem_cons.mpr ⟨kf11_356, List.forall_mem_cons.mpr ⟨kf11_358, List.forall_mem_cons.mpr ⟨kf11_386, fun _ h => absurd h List.not_mem_nil⟩⟩⟩⟩⟩⟩⟩⟩
theorem sfa11 : ∀ q ∈ (tbl 11).2.2.2.2.2, SFe 11 q := fun _ h => absurd h List.not_mem_nil
theorem cf12_7 : CF 12 7 8 1 mX0_init := Or.inl ⟨rfl, (tg6 (List.mem_of_getElem? (i := 69) rfl) rfl)⟩
theorem cf12_78 : CF 12 78 4 1 mX12_plain := Or.inr (Or.inr ⟨mfX12_plain, Or.inr (Or.inr (Or.inr (Or.inr (Or.inl ⟨rfl, (tg6 (List.mem_of_getElem? (i := 72) rfl) rfl), (tg6 (List.mem_of_getElem? (i := 73) rfl) rfl), pmX12_plain⟩))))⟩)
theorem cf12_90 : CF 12 90 0 1 mJ0_length_8abf5 := Or.inr (Or.inr ⟨mfJ0_length_8abf5, Or.inl ⟨rfl, (tg6 (List.mem_of_getElem? (i := 218) rfl) rfl), (tg2 (List.mem_of_getElem? (i := 143) rfl) rfl), (tg2 (List.mem_of_getElem? (i := 144) rfl) rfl), pmJ0_length_8abf5, by decide⟩⟩)
theorem cf12_96 : CF 12 96 0 2 mJ0_charAt_5068e := Or.inr (Or.inr ⟨mfJ0_charAt_5068e, Or.inl ⟨rfl, (tg6 (List.mem_of_getElem? (i := 219) rfl) rfl), (tg2 (List.mem_of_getElem? (i := 225) rfl) rfl), (tg2 (List.mem_of_getElem? (i := 226) rfl) rfl), pmJ0_charAt_5068e, by decide⟩⟩)
theorem cf12_106 : CF 12 106 0 2 mX12_see := Or.inr (Or.inr ⟨mfX12_see, Or.inl ⟨rfl, (tg6 (List.mem_of_getElem? (i := 206) rfl) rfl), (tg6 (List.mem_of_getElem? (i := 208) rfl) rfl), (tp4 (List.mem_of_getElem? (i := 15) rfl)), pmX12_see, by decide⟩⟩)
theorem cf12_113 : CF 12 113 4 1 mX12_isSmall := Or.inr (Or.inr ⟨mfX12_isSmall, Or.inr (Or.inr (Or.inr (Or.inr (Or.inl ⟨rfl, (tg6 (List.mem_of_getElem? (i := 210) rfl) rfl), (tg6 (List.mem_of_getElem? (i := 211) rfl) rfl), pmX12_isSmall⟩))))⟩)
theorem cf12_117 : CF 12 117 0 1 mX12_keyAt := Or.inr (Or.inr ⟨mfX12_keyAt, Or.inl ⟨rfl, (tg6 (List.mem_of_getElem? (i := 213) rfl) rfl), (tg6 (List.mem_of_getElem? (i := 215) rfl) rfl), (tp5 (List.mem_of_getElem? (i := 0) rfl)), pmX12_keyAt, by decide⟩⟩)
theorem cf12_120 : CF 12 120 4 1 mX12_isDigit := Or.inr (Or.inr ⟨mfX12_isDigit, Or.inr (Or.inr (Or.inr (Or.inr (Or.inl ⟨rfl, (tg6 (List.mem_of_getElem? (i := 220) rfl) rfl), (tg6 (List.mem_of_getElem? (i := 221) rfl) rfl), pmX12_isDigit⟩))))⟩)
theorem cf12_134 : CF 12 134 0 2 mX12_is := Or.inr (Or.inr ⟨mfX12_is, Or.inl ⟨rfl, (tg6 (List.mem_of_getElem? (i := 228) rfl) rfl), (tg6 (List.mem_of_getElem? (i := 230) rfl) rfl), (tp5 (List.mem_of_getElem? (i := 2) rfl)), pmX12_is, by decide⟩⟩)
theorem cf12_137 : CF 12 137 0 1 mX12_next := Or.inr (Or.inr ⟨mfX12_next, Or.inl ⟨rfl, (tg6 (List.mem_of_getElem? (i := 202) rfl) rfl), (tg6 (List.mem_of_getElem? (i := 204) rfl) rfl), (tp4 (List.mem_of_getElem? (i := 14) rfl)), pmX12_next, by decide⟩⟩)
theorem cf12_140 : CF 12 140 0 2 mX12_fails := Or.inr (Or.inr ⟨mfX12_fails, Or.inl ⟨rfl, (tg6 (List.mem_of_getElem? (i := 232) rfl) rfl), (tg6 (List.mem_of_getElem? (i := 234) rfl) rfl), (tp5 (List.mem_of_getElem? (i := 3) rfl)), pmX12_fails, by decide⟩⟩)
theorem cf12_144 : CF 12 144 4 3 mX12_within := Or.inr (Or.inr ⟨mfX12_within, Or.inr (Or.inr (Or.inr (Or.inr (Or.inl ⟨rfl, (tg6 (List.mem_of_getElem? (i := 199) rfl) rfl), (tg6 (List.mem_of_getElem? (i := 200) rfl) rfl), pmX12_within⟩))))⟩)
theorem cf12_151 : CF 12 151 0 2 mX12_codes := Or.inr (Or.inr ⟨mfX12_codes, Or.inl ⟨rfl, (tg7 (List.mem_of_getElem? (i := 36) rfl) rfl), (tg7 (List.mem_of_getElem? (i := 38) rfl) rfl), (tp5 (List.mem_of_getElem? (i := 14) rfl)), pmX12_codes, by decide⟩⟩)
theorem cf12_154 : CF 12 154 0 2 mX12_wordOf := Or.inr (Or.inr ⟨mfX12_wordOf, Or.inl ⟨rfl, (tg7 (List.mem_of_getElem? (i := 40) rfl) rfl), (tg7 (List.mem_of_getElem? (i := 42) rfl) rfl), (tp5 (List.mem_of_getElem? (i := 15) rfl)), pmX12_wordOf, by decide⟩⟩)
theorem cf12_157 : CF 12 157 0 2 mX12_goesIn := Or.inr (Or.inr ⟨mfX12_goesIn, Or.inl ⟨rfl, (tg7 (List.mem_of_getElem? (i := 44) rfl) rfl), (tg7 (List.mem_of_getElem? (i := 46) rfl) rfl), (tp6 (List.mem_of_getElem? (i := 0) rfl)), pmX12_goesIn, by decide⟩⟩)
theorem cf12_160 : CF 12 160 0 2 mX12_readSum := Or.inr (Or.inr ⟨mfX12_readSum, Or.inl ⟨rfl, (tg7 (List.mem_of_getElem? (i := 24) rfl) rfl), (tg7 (List.mem_of_getElem? (i := 26) rfl) rfl), (tp5 (List.mem_of_getElem? (i := 11) rfl)), pmX12_readSum, by decide⟩⟩)
theorem cf12_163 : CF 12 163 0 2 mX12_eats := Or.inr (Or.inr ⟨mfX12_eats, Or.inl ⟨rfl, (tg6 (List.mem_of_getElem? (i := 224) rfl) rfl), (tg6 (List.mem_of_getElem? (i := 226) rfl) rfl), (tp5 (List.mem_of_getElem? (i := 1) rfl)), pmX12_eats, by decide⟩⟩)
theorem cf12_166 : CF 12 166 0 2 mX12_readIf := Or.inr (Or.inr ⟨mfX12_readIf, Or.inl ⟨rfl, (tg7 (List.mem_of_getElem? (i := 48) rfl) rfl), (tg7 (List.mem_of_getElem? (i := 50) rfl) rfl), (tp6 (List.mem_of_getElem? (i := 1) rfl)), pmX12_readIf, by decide⟩⟩)
theorem cf12_169 : CF 12 169 0 2 mX12_readTruth := Or.inr (Or.inr ⟨mfX12_readTruth, Or.inl ⟨rfl, (tg7 (List.mem_of_getElem? (i := 52) rfl) rfl), (tg7 (List.mem_of_getElem? (i := 54) rfl) rfl), (tp6 (List.mem_of_getElem? (i := 2) rfl)), pmX12_readTruth, by decide⟩⟩)
theorem cf12_172 : CF 12 172 0 2 mX12_readAtom := Or.inr (Or.inr ⟨mfX12_readAtom, Or.inl ⟨rfl, (tg7 (List.mem_of_getElem? (i := 32) rfl) rfl), (tg7 (List.mem_of_getElem? (i := 34) rfl) rfl), (tp5 (List.mem_of_getElem? (i := 13) rfl)), pmX12_readAtom, by decide⟩⟩)
theorem cf12_175 : CF 12 175 0 2 mX12_readTerm := Or.inr (Or.inr ⟨mfX12_readTerm, Or.inl ⟨rfl, (tg7 (List.mem_of_getElem? (i := 28) rfl) rfl), (tg7 (List.mem_of_getElem? (i := 30) rfl) rfl), (tp5 (List.mem_of_getElem? (i := 12) rfl)), pmX12_readTerm, by decide⟩⟩)
theorem cf12_178 : CF 12 178 0 2 mX12_readUnit := Or.inr (Or.inr ⟨mfX12_readUnit, Or.inl ⟨rfl, (tg7 (List.mem_of_getElem? (i := 60) rfl) rfl), (tg7 (List.mem_of_getElem? (i := 62) rfl) rfl), (tp6 (List.mem_of_getElem? (i := 4) rfl)), pmX12_readUnit, by decide⟩⟩)
theorem cf12_181 : CF 12 181 0 2 mX12_readBoth := Or.inr (Or.inr ⟨mfX12_readBoth, Or.inl ⟨rfl, (tg7 (List.mem_of_getElem? (i := 56) rfl) rfl), (tg7 (List.mem_of_getElem? (i := 58) rfl) rfl), (tp6 (List.mem_of_getElem? (i := 3) rfl)), pmX12_readBoth, by decide⟩⟩)
theorem cf12_184 : CF 12 184 0 3 mX12_takes := Or.inr (Or.inr ⟨mfX12_takes, Or.inl ⟨rfl, (tg6 (List.mem_of_getElem? (i := 236) rfl) rfl), (tg6 (List.mem_of_getElem? (i := 238) rfl) rfl), (tp5 (List.mem_of_getElem? (i := 4) rfl)), pmX12_takes, by decide⟩⟩)
theorem cf12_188 : CF 12 188 0 2 mX12_readPart := Or.inr (Or.inr ⟨mfX12_readPart, Or.inl ⟨rfl, (tg7 (List.mem_of_getElem? (i := 12) rfl) rfl), (tg7 (List.mem_of_getElem? (i := 14) rfl) rfl), (tp5 (List.mem_of_getElem? (i := 8) rfl)), pmX12_readPart, by decide⟩⟩)
theorem cf12_191 : CF 12 191 0 1 mX12_readThing := Or.inr (Or.inr ⟨mfX12_readThing, Or.inl ⟨rfl, (tg7 (List.mem_of_getElem? (i := 8) rfl) rfl), (tg7 (List.mem_of_getElem? (i := 10) rfl) rfl), (tp5 (List.mem_of_getElem? (i := 7) rfl)), pmX12_readThing, by decide⟩⟩)
theorem cf12_194 : CF 12 194 0 1 mX12_readGoer := Or.inr (Or.inr ⟨mfX12_readGoer, Or.inl ⟨rfl, (tg7 (List.mem_of_getElem? (i := 16) rfl) rfl), (tg7 (List.mem_of_getElem? (i := 18) rfl) rfl), (tp5 (List.mem_of_getElem? (i := 9) rfl)), pmX12_readGoer, by decide⟩⟩)
theorem cf12_197 : CF 12 197 0 2 mX12_readLaw := Or.inr (Or.inr ⟨mfX12_readLaw, Or.inl ⟨rfl, (tg7 (List.mem_of_getElem? (i := 20) rfl) rfl), (tg7 (List.mem_of_getElem? (i := 22) rfl) rfl), (tp5 (List.mem_of_getElem? (i := 10) rfl)), pmX12_readLaw, by decide⟩⟩)
theorem cf12_200 : CF 12 200 0 1 mX12_ends := Or.inr (Or.inr ⟨mfX12_ends, Or.inl ⟨rfl, (tg7 (List.mem_of_getElem? (i := 0) rfl) rfl), (tg7 (List.mem_of_getElem? (i := 2) rfl) rfl), (tp5 (List.mem_of_getElem? (i := 5) rfl)), pmX12_ends, by decide⟩⟩)
theorem cf12_203 : CF 12 203 0 1 mX12_readLine := Or.inr (Or.inr ⟨mfX12_readLine, Or.inl ⟨rfl, (tg7 (List.mem_of_getElem? (i := 4) rfl) rfl), (tg7 (List.mem_of_getElem? (i := 6) rfl) rfl), (tp5 (List.mem_of_getElem? (i := 6) rfl)), pmX12_readLine, by decide⟩⟩)
theorem cf12_213 : CF 12 213 4 3 mX12_between := Or.inr (Or.inr ⟨mfX12_between, Or.inr (Or.inr (Or.inr (Or.inr (Or.inl ⟨rfl, (tg7 (List.mem_of_getElem? (i := 99) rfl) rfl), (tg7 (List.mem_of_getElem? (i := 100) rfl) rfl), pmX12_between⟩))))⟩)
theorem cf12_217 : CF 12 217 4 1 mX12_bitsOf := Or.inr (Or.inr ⟨mfX12_bitsOf, Or.inr (Or.inr (Or.inr (Or.inr (Or.inl ⟨rfl, (tg7 (List.mem_of_getElem? (i := 92) rfl) rfl), (tg7 (List.mem_of_getElem? (i := 93) rfl) rfl), pmX12_bitsOf⟩))))⟩)
theorem cf12_220 : CF 12 220 0 2 mX12_reckons := Or.inr (Or.inr ⟨mfX12_reckons, Or.inl ⟨rfl, (tg7 (List.mem_of_getElem? (i := 95) rfl) rfl), (tg7 (List.mem_of_getElem? (i := 97) rfl) rfl), (tp6 (List.mem_of_getElem? (i := 9) rfl)), pmX12_reckons, by decide⟩⟩)
theorem cf12_226 : CF 12 226 4 2 mX12_isIn := Or.inr (Or.inr ⟨mfX12_isIn, Or.inr (Or.inr (Or.inr (Or.inr (Or.inl ⟨rfl, (tg7 (List.mem_of_getElem? (i := 104) rfl) rfl), (tg7 (List.mem_of_getElem? (i := 105) rfl) rfl), pmX12_isIn⟩))))⟩)
theorem cf12_236 : CF 12 236 0 4 mX12_laysDive := Or.inr (Or.inr ⟨mfX12_laysDive, Or.inl ⟨rfl, (tg7 (List.mem_of_getElem? (i := 88) rfl) rfl), (tg7 (List.mem_of_getElem? (i := 90) rfl) rfl), (tp6 (List.mem_of_getElem? (i := 8) rfl)), pmX12_laysDive, by decide⟩⟩)
theorem cf12_240 : CF 12 240 0 2 mX12_isThing := Or.inr (Or.inr ⟨mfX12_isThing, Or.inl ⟨rfl, (tg7 (List.mem_of_getElem? (i := 72) rfl) rfl), (tg7 (List.mem_of_getElem? (i := 74) rfl) rfl), (tp6 (List.mem_of_getElem? (i := 5) rfl)), pmX12_isThing, by decide⟩⟩)
theorem cf12_244 : CF 12 244 0 2 mX12_isGoer := Or.inr (Or.inr ⟨mfX12_isGoer, Or.inl ⟨rfl, (tg7 (List.mem_of_getElem? (i := 80) rfl) rfl), (tg7 (List.mem_of_getElem? (i := 82) rfl) rfl), (tp6 (List.mem_of_getElem? (i := 6) rfl)), pmX12_isGoer, by decide⟩⟩)
theorem cf12_247 : CF 12 247 0 2 mX12_laysNow := Or.inr (Or.inr ⟨mfX12_laysNow, Or.inl ⟨rfl, (tg7 (List.mem_of_getElem? (i := 84) rfl) rfl), (tg7 (List.mem_of_getElem? (i := 86) rfl) rfl), (tp6 (List.mem_of_getElem? (i := 7) rfl)), pmX12_laysNow, by decide⟩⟩)
theorem cf12_250 : CF 12 250 0 2 mX12_dives := Or.inr (Or.inr ⟨mfX12_dives, Or.inl ⟨rfl, (tg7 (List.mem_of_getElem? (i := 123) rfl) rfl), (tg7 (List.mem_of_getElem? (i := 125) rfl) rfl), (tp6 (List.mem_of_getElem? (i := 11) rfl)), pmX12_dives, by decide⟩⟩)
theorem cf12_255 : CF 12 255 0 1 mX12_keeps := Or.inr (Or.inr ⟨mfX12_keeps, Or.inl ⟨rfl, (tg7 (List.mem_of_getElem? (i := 119) rfl) rfl), (tg7 (List.mem_of_getElem? (i := 121) rfl) rfl), (tp6 (List.mem_of_getElem? (i := 10) rfl)), pmX12_keeps, by decide⟩⟩)
theorem cf12_258 : CF 12 258 0 1 mX12_notes := Or.inr (Or.inr ⟨mfX12_notes, Or.inl ⟨rfl, (tg7 (List.mem_of_getElem? (i := 127) rfl) rfl), (tg7 (List.mem_of_getElem? (i := 129) rfl) rfl), (tp6 (List.mem_of_getElem? (i := 12) rfl)), pmX12_notes, by decide⟩⟩)
theorem cf12_261 : CF 12 261 0 3 mX12_whySay := Or.inr (Or.inr ⟨mfX12_whySay, Or.inl ⟨rfl, (tg7 (List.mem_of_getElem? (i := 135) rfl) rfl), (tg7 (List.mem_of_getElem? (i := 137) rfl) rfl), (tp6 (List.mem_of_getElem? (i := 13) rfl)), pmX12_whySay, by decide⟩⟩)
theorem cf12_265 : CF 12 265 0 3 mX12_says := Or.inr (Or.inr ⟨mfX12_says, Or.inl ⟨rfl, (tg7 (List.mem_of_getElem? (i := 140) rfl) rfl), (tg7 (List.mem_of_getElem? (i := 142) rfl) rfl), (tp6 (List.mem_of_getElem? (i := 14) rfl)), pmX12_says, by decide⟩⟩)
theorem cf12_269 : CF 12 269 0 2 mX12_whyWipe := Or.inr (Or.inr ⟨mfX12_whyWipe, Or.inl ⟨rfl, (tg7 (List.mem_of_getElem? (i := 148) rfl) rfl), (tg7 (List.mem_of_getElem? (i := 150) rfl) rfl), (tp6 (List.mem_of_getElem? (i := 15) rfl)), pmX12_whyWipe, by decide⟩⟩)
theorem cf12_294 : CF 12 294 0 2 mX12_whyNot := Or.inr (Or.inr ⟨mfX12_whyNot, Or.inl ⟨rfl, (tg7 (List.mem_of_getElem? (i := 179) rfl) rfl), (tg7 (List.mem_of_getElem? (i := 181) rfl) rfl), (tp7 (List.mem_of_getElem? (i := 2) rfl)), pmX12_whyNot, by decide⟩⟩)
theorem cf12_297 : CF 12 297 0 2 mX12_does := Or.inr (Or.inr ⟨mfX12_does, Or.inl ⟨rfl, (tg7 (List.mem_of_getElem? (i := 190) rfl) rfl), (tg7 (List.mem_of_getElem? (i := 192) rfl) rfl), (tp7 (List.mem_of_getElem? (i := 3) rfl)), pmX12_does, by decide⟩⟩)
theorem cf12_302 : CF 12 302 0 2 mX12_noTray := Or.inr (Or.inr ⟨mfX12_noTray, Or.inl ⟨rfl, (tg7 (List.mem_of_getElem? (i := 171) rfl) rfl), (tg7 (List.mem_of_getElem? (i := 173) rfl) rfl), (tp7 (List.mem_of_getElem? (i := 0) rfl)), pmX12_noTray, by decide⟩⟩)
theorem cf12_305 : CF 12 305 0 2 mX12_toldRow := Or.inr (Or.inr ⟨mfX12_toldRow, Or.inl ⟨rfl, (tg7 (List.mem_of_getElem? (i := 175) rfl) rfl), (tg7 (List.mem_of_getElem? (i := 177) rfl) rfl), (tp7 (List.mem_of_getElem? (i := 1) rfl)), pmX12_toldRow, by decide⟩⟩)
theorem cf12_308 : CF 12 308 0 1 mX12_isAgain := Or.inr (Or.inr ⟨mfX12_isAgain, Or.inl ⟨rfl, (tg7 (List.mem_of_getElem? (i := 194) rfl) rfl), (tg7 (List.mem_of_getElem? (i := 196) rfl) rfl), (tp7 (List.mem_of_getElem? (i := 4) rfl)), pmX12_isAgain, by decide⟩⟩)
theorem cf12_315 : CF 12 315 0 2 mX12_draw := Or.inr (Or.inr ⟨mfX12_draw, Or.inl ⟨rfl, (tg7 (List.mem_of_getElem? (i := 211) rfl) rfl), (tg7 (List.mem_of_getElem? (i := 213) rfl) rfl), (tp7 (List.mem_of_getElem? (i := 6) rfl)), pmX12_draw, by decide⟩⟩)
theorem cf12_320 : CF 12 320 0 1 mX12_drawn := Or.inr (Or.inr ⟨mfX12_drawn, Or.inl ⟨rfl, (tg7 (List.mem_of_getElem? (i := 207) rfl) rfl), (tg7 (List.mem_of_getElem? (i := 209) rfl) rfl), (tp7 (List.mem_of_getElem? (i := 5) rfl)), pmX12_drawn, by decide⟩⟩)
theorem cf12_323 : CF 12 323 4 2 mX12_standOf := Or.inr (Or.inr ⟨mfX12_standOf, Or.inr (Or.inr (Or.inr (Or.inr (Or.inl ⟨rfl, (tg8 (List.mem_of_getElem? (i := 1) rfl) rfl), (tg8 (List.mem_of_getElem? (i := 2) rfl) rfl), pmX12_standOf⟩))))⟩)
theorem cf12_327 : CF 12 327 0 1 mX12_standNow := Or.inr (Or.inr ⟨mfX12_standNow, Or.inl ⟨rfl, (tg7 (List.mem_of_getElem? (i := 237) rfl) rfl), (tg7 (List.mem_of_getElem? (i := 239) rfl) rfl), (tp7 (List.mem_of_getElem? (i := 11) rfl)), pmX12_standNow, by decide⟩⟩)
theorem cf12_333 : CF 12 333 0 2 mX12_laysStands := Or.inr (Or.inr ⟨mfX12_laysStands, Or.inl ⟨rfl, (tg7 (List.mem_of_getElem? (i := 232) rfl) rfl), (tg7 (List.mem_of_getElem? (i := 234) rfl) rfl), (tp7 (List.mem_of_getElem? (i := 10) rfl)), pmX12_laysStands, by decide⟩⟩)
theorem cf12_336 : CF 12 336 4 2 mX12_isGoal := Or.inr (Or.inr ⟨mfX12_isGoal, Or.inr (Or.inr (Or.inr (Or.inr (Or.inl ⟨rfl, (tg8 (List.mem_of_getElem? (i := 4) rfl) rfl), (tg8 (List.mem_of_getElem? (i := 5) rfl) rfl), pmX12_isGoal⟩))))⟩)
theorem cf12_340 : CF 12 340 0 3 mX12_leastBy := Or.inr (Or.inr ⟨mfX12_leastBy, Or.inl ⟨rfl, (tg8 (List.mem_of_getElem? (i := 7) rfl) rfl), (tg8 (List.mem_of_getElem? (i := 9) rfl) rfl), (tp7 (List.mem_of_getElem? (i := 12) rfl)), pmX12_leastBy, by decide⟩⟩)
theorem cf12_343 : CF 12 343 0 3 mX12_laysStill := Or.inr (Or.inr ⟨mfX12_laysStill, Or.inl ⟨rfl, (tg7 (List.mem_of_getElem? (i := 228) rfl) rfl), (tg7 (List.mem_of_getElem? (i := 230) rfl) rfl), (tp7 (List.mem_of_getElem? (i := 9) rfl)), pmX12_laysStill, by decide⟩⟩)
theorem cf12_346 : CF 12 346 0 3 mX12_comes := Or.inr (Or.inr ⟨mfX12_comes, Or.inl ⟨rfl, (tg7 (List.mem_of_getElem? (i := 224) rfl) rfl), (tg7 (List.mem_of_getElem? (i := 226) rfl) rfl), (tp7 (List.mem_of_getElem? (i := 8) rfl)), pmX12_comes, by decide⟩⟩)
theorem cf12_349 : CF 12 349 0 2 mX12_isSet := Or.inr (Or.inr ⟨mfX12_isSet, Or.inl ⟨rfl, (tg7 (List.mem_of_getElem? (i := 220) rfl) rfl), (tg7 (List.mem_of_getElem? (i := 222) rfl) rfl), (tp7 (List.mem_of_getElem? (i := 7) rfl)), pmX12_isSet, by decide⟩⟩)
theorem cf12_352 : CF 12 352 0 4 mX12_goerAt := Or.inr (Or.inr ⟨mfX12_goerAt, Or.inl ⟨rfl, (tg8 (List.mem_of_getElem? (i := 15) rfl) rfl), (tg8 (List.mem_of_getElem? (i := 17) rfl) rfl), (tp7 (List.mem_of_getElem? (i := 13) rfl)), pmX12_goerAt, by decide⟩⟩)
theorem cf12_361 : CF 12 361 0 1 mX12_everyGoer := Or.inr (Or.inr ⟨mfX12_everyGoer, Or.inl ⟨rfl, (tg8 (List.mem_of_getElem? (i := 34) rfl) rfl), (tg8 (List.mem_of_getElem? (i := 36) rfl) rfl), (tp7 (List.mem_of_getElem? (i := 14) rfl)), pmX12_everyGoer, by decide⟩⟩)
theorem cf12_364 : CF 12 364 0 1 mX12_beginsMany := Or.inr (Or.inr ⟨mfX12_beginsMany, Or.inl ⟨rfl, (tg8 (List.mem_of_getElem? (i := 38) rfl) rfl), (tg8 (List.mem_of_getElem? (i := 40) rfl) rfl), (tp7 (List.mem_of_getElem? (i := 15) rfl)), pmX12_beginsMany, by decide⟩⟩)
theorem cf12_367 : CF 12 367 0 2 mX12_goesMany := Or.inr (Or.inr ⟨mfX12_goesMany, Or.inl ⟨rfl, (tg8 (List.mem_of_getElem? (i := 42) rfl) rfl), (tg8 (List.mem_of_getElem? (i := 44) rfl) rfl), (tp8 (List.mem_of_getElem? (i := 0) rfl)), pmX12_goesMany, by decide⟩⟩)
theorem cf12_371 : CF 12 371 0 2 mX12_manyThere := Or.inr (Or.inr ⟨mfX12_manyThere, Or.inl ⟨rfl, (tg8 (List.mem_of_getElem? (i := 46) rfl) rfl), (tg8 (List.mem_of_getElem? (i := 48) rfl) rfl), (tp8 (List.mem_of_getElem? (i := 1) rfl)), pmX12_manyThere, by decide⟩⟩)
theorem cf12_375 : CF 12 375 0 3 mX12_canCome := Or.inr (Or.inr ⟨mfX12_canCome, Or.inl ⟨rfl, (tg8 (List.mem_of_getElem? (i := 54) rfl) rfl), (tg8 (List.mem_of_getElem? (i := 56) rfl) rfl), (tp8 (List.mem_of_getElem? (i := 2) rfl)), pmX12_canCome, by decide⟩⟩)
theorem cf12_380 : CF 12 380 0 5 mX12_goesSeen := Or.inr (Or.inr ⟨mfX12_goesSeen, Or.inl ⟨rfl, (tg8 (List.mem_of_getElem? (i := 103) rfl) rfl), (tg8 (List.mem_of_getElem? (i := 105) rfl) rfl), (tp8 (List.mem_of_getElem? (i := 6) rfl)), pmX12_goesSeen, by decide⟩⟩)
theorem cf12_384 : CF 12 384 0 4 mX12_isSeen := Or.inr (Or.inr ⟨mfX12_isSeen, Or.inl ⟨rfl, (tg8 (List.mem_of_getElem? (i := 91) rfl) rfl), (tg8 (List.mem_of_getElem? (i := 93) rfl) rfl), (tp8 (List.mem_of_getElem? (i := 4) rfl)), pmX12_isSeen, by decide⟩⟩)
theorem cf12_388 : CF 12 388 0 2 mX12_noPosted := Or.inr (Or.inr ⟨mfX12_noPosted, Or.inl ⟨rfl, (tg8 (List.mem_of_getElem? (i := 86) rfl) rfl), (tg8 (List.mem_of_getElem? (i := 88) rfl) rfl), (tp8 (List.mem_of_getElem? (i := 3) rfl)), pmX12_noPosted, by decide⟩⟩)
theorem cf12_391 : CF 12 391 0 2 mX12_laysSeen := Or.inr (Or.inr ⟨mfX12_laysSeen, Or.inl ⟨rfl, (tg8 (List.mem_of_getElem? (i := 99) rfl) rfl), (tg8 (List.mem_of_getElem? (i := 101) rfl) rfl), (tp8 (List.mem_of_getElem? (i := 5) rfl)), pmX12_laysSeen, by decide⟩⟩)
theorem cf12_397 : CF 12 397 0 3 mX12_isAlone := Or.inr (Or.inr ⟨mfX12_isAlone, Or.inl ⟨rfl, (tg8 (List.mem_of_getElem? (i := 123) rfl) rfl), (tg8 (List.mem_of_getElem? (i := 125) rfl) rfl), (tp8 (List.mem_of_getElem? (i := 9) rfl)), pmX12_isAlone, by decide⟩⟩)
theorem cf12_400 : CF 12 400 0 3 mX12_noAlone := Or.inr (Or.inr ⟨mfX12_noAlone, Or.inl ⟨rfl, (tg8 (List.mem_of_getElem? (i := 115) rfl) rfl), (tg8 (List.mem_of_getElem? (i := 117) rfl) rfl), (tp8 (List.mem_of_getElem? (i := 7) rfl)), pmX12_noAlone, by decide⟩⟩)
theorem cf12_403 : CF 12 403 0 3 mX12_laysBolds := Or.inr (Or.inr ⟨mfX12_laysBolds, Or.inl ⟨rfl, (tg8 (List.mem_of_getElem? (i := 119) rfl) rfl), (tg8 (List.mem_of_getElem? (i := 121) rfl) rfl), (tp8 (List.mem_of_getElem? (i := 8) rfl)), pmX12_laysBolds, by decide⟩⟩)
theorem cf12_406 : CF 12 406 0 3 mX12_oneTurn := Or.inr (Or.inr ⟨mfX12_oneTurn, Or.inl ⟨rfl, (tg8 (List.mem_of_getElem? (i := 143) rfl) rfl), (tg8 (List.mem_of_getElem? (i := 145) rfl) rfl), (tp8 (List.mem_of_getElem? (i := 12) rfl)), pmX12_oneTurn, by decide⟩⟩)
theorem cf12_409 : CF 12 409 0 3 mX12_otherTurn := Or.inr (Or.inr ⟨mfX12_otherTurn, Or.inl ⟨rfl, (tg8 (List.mem_of_getElem? (i := 147) rfl) rfl), (tg8 (List.mem_of_getElem? (i := 149) rfl) rfl), (tp8 (List.mem_of_getElem? (i := 13) rfl)), pmX12_otherTurn, by decide⟩⟩)
theorem cf12_412 : CF 12 412 0 4 mX12_noForce := Or.inr (Or.inr ⟨mfX12_noForce, Or.inl ⟨rfl, (tg8 (List.mem_of_getElem? (i := 135) rfl) rfl), (tg8 (List.mem_of_getElem? (i := 137) rfl) rfl), (tp8 (List.mem_of_getElem? (i := 10) rfl)), pmX12_noForce, by decide⟩⟩)
theorem cf12_415 : CF 12 415 0 4 mX12_laysForced := Or.inr (Or.inr ⟨mfX12_laysForced, Or.inl ⟨rfl, (tg8 (List.mem_of_getElem? (i := 139) rfl) rfl), (tg8 (List.mem_of_getElem? (i := 141) rfl) rfl), (tp8 (List.mem_of_getElem? (i := 11) rfl)), pmX12_laysForced, by decide⟩⟩)
theorem cf12_418 : CF 12 418 0 1 mX12_oddsAll := Or.inr (Or.inr ⟨mfX12_oddsAll, Or.inl ⟨rfl, (tg8 (List.mem_of_getElem? (i := 168) rfl) rfl), (tg8 (List.mem_of_getElem? (i := 170) rfl) rfl), (tp8 (List.mem_of_getElem? (i := 15) rfl)), pmX12_oddsAll, by decide⟩⟩)
theorem cf12_421 : CF 12 421 4 2 mX12_common := Or.inr (Or.inr ⟨mfX12_common, Or.inr (Or.inr (Or.inr (Or.inr (Or.inl ⟨rfl, (tg8 (List.mem_of_getElem? (i := 172) rfl) rfl), (tg8 (List.mem_of_getElem? (i := 173) rfl) rfl), pmX12_common⟩))))⟩)
theorem cf12_427 : CF 12 427 0 2 mX12_laysLikely := Or.inr (Or.inr ⟨mfX12_laysLikely, Or.inl ⟨rfl, (tg8 (List.mem_of_getElem? (i := 164) rfl) rfl), (tg8 (List.mem_of_getElem? (i := 166) rfl) rfl), (tp8 (List.mem_of_getElem? (i := 14) rfl)), pmX12_laysLikely, by decide⟩⟩)
theorem cf12_432 : CF 12 432 4 2 mX12_cut := Or.inr (Or.inr ⟨mfX12_cut, Or.inr (Or.inr (Or.inr (Or.inr (Or.inl ⟨rfl, (tg8 (List.mem_of_getElem? (i := 188) rfl) rfl), (tg8 (List.mem_of_getElem? (i := 189) rfl) rfl), pmX12_cut⟩))))⟩)
theorem cf12_436 : CF 12 436 0 1 mX12_deepestThing := Or.inr (Or.inr ⟨mfX12_deepestThing, Or.inl ⟨rfl, (tg8 (List.mem_of_getElem? (i := 207) rfl) rfl), (tg8 (List.mem_of_getElem? (i := 209) rfl) rfl), (tp9 (List.mem_of_getElem? (i := 0) rfl)), pmX12_deepestThing, by decide⟩⟩)
theorem cfa12 : ∀ q ∈ (tbl 12).2.1, CFe 12 q := List.forall_mem_cons.mpr ⟨cf12_7, List.forall_mem_cons.mpr ⟨cf12_78, List.forall_mem_cons.mpr ⟨cf12_90, List.forall_mem_cons.mpr ⟨cf12_96, List.forall_mem_cons.mpr ⟨cf12_106, List.forall_mem_cons.mpr ⟨cf12_113, List.forall_mem_cons.mpr ⟨cf12_117, List.forall_mem_cons.mpr ⟨cf12_120, List.forall_mem_cons.mpr ⟨cf12_134, List.forall_mem_cons.mpr ⟨cf12_137, List.forall_mem_cons.mpr ⟨cf12_140, List.forall_mem_cons.mpr ⟨cf12_144, List.forall_mem_cons.mpr ⟨cf12_151, List.forall_mem_cons.mpr ⟨cf12_154, List.forall_mem_cons.mpr ⟨cf12_157, List.forall_mem_cons.mpr ⟨cf12_160, List.forall_mem_cons.mpr ⟨cf12_163, List.forall_mem_cons.mpr ⟨cf12_166, List.forall_mem_cons.mpr ⟨cf12_169, List.forall_mem_cons.mpr ⟨cf12_172, List.forall_mem_cons.mpr ⟨cf12_175, List.forall_mem_cons.mpr ⟨cf12_178, List.forall_mem_cons.mpr ⟨cf12_181, List.forall_mem_cons.mpr ⟨cf12_184, List.forall_mem_cons.mpr ⟨cf12_188, List.forall_mem_cons.mpr ⟨cf12_191, List.forall_mem_cons.mpr ⟨cf12_194, List.forall_mem_cons.mpr ⟨cf12_197, List.forall_mem_cons.mpr ⟨cf12_200, List.forall_mem_cons.mpr ⟨cf12_203, List.forall_mem_cons.mpr ⟨cf12_213, List.forall_mem_cons.mpr ⟨cf12_217, List.forall_mem_cons.mpr ⟨cf12_220, List.forall_mem_cons.mpr ⟨cf12_226, List.forall_mem_cons.mpr ⟨cf12_236, List.forall_mem_cons.mpr ⟨cf12_240, List.forall_mem_cons.mpr ⟨cf12_244, List.forall_mem_cons.mpr ⟨cf12_247, List.forall_mem_cons.mpr ⟨cf12_250, List.forall_mem_cons.mpr ⟨cf12_255, List.forall_mem_cons.mpr ⟨cf12_258, List.forall_mem_cons.mpr ⟨cf12_261, List.forall_mem_cons.mpr ⟨cf12_265, List.forall_mem_cons.mpr ⟨cf12_269, List.forall_mem_cons.mpr ⟨cf12_294, List.forall_mem_cons.mpr ⟨cf12_297, List.forall_mem_cons.mpr ⟨cf12_302, List.forall_mem_cons.mpr ⟨cf12_305, List.forall_mem_cons.mpr ⟨cf12_308, List.forall_mem_cons.mpr ⟨cf12_315, List.forall_mem_cons.mpr ⟨cf12_320, List.forall_mem_cons.mpr ⟨cf12_323, List.forall_mem_cons.mpr ⟨cf12_327, List.forall_mem_cons.mpr ⟨cf12_333, List.forall_mem_cons.mpr ⟨cf12_336, List.forall_mem_cons.mpr ⟨cf12_340, List.forall_mem_cons.mpr ⟨cf12_343, List.forall_mem_cons.mpr ⟨cf12_346, List.forall_mem_cons.mpr ⟨cf12_349, List.forall_mem_cons.mpr ⟨cf12_352, List.forall_mem_cons.mpr ⟨cf12_361, List.forall_mem_cons.mpr ⟨cf12_364, List.forall_mem_cons.mpr ⟨cf12_367, List.forall_mem_cons.mpr ⟨cf12_371, List.forall_mem_cons.mpr ⟨cf12_375, List.forall_mem_cons.mpr ⟨cf12_380, List.forall_mem_cons.mpr ⟨cf12_384, List.forall_mem_cons.mpr ⟨cf12_388, List.forall_mem_cons.mpr ⟨cf12_391, List.forall_mem_cons.mpr ⟨cf12_397, List.forall_mem_cons.mpr ⟨cf12_400, List.forall_mem_cons.mpr ⟨cf12_403, List.forall_mem_cons.mpr ⟨cf12_406, List.forall_mem_cons.mpr ⟨cf12_409, List.forall_mem_cons.mpr ⟨cf12_412, List.forall_mem_cons.mpr ⟨cf12_415, List.forall_mem_cons.mpr ⟨cf12_418, List.forall_mem_cons.mpr ⟨cf12_421, List.forall_mem_cons.mpr ⟨cf12_427, List.forall_mem_cons.mpr ⟨cf12_432, List.forall_mem_cons.mpr ⟨cf12_436, fun _ h => absurd h List.not_mem_nil⟩⟩⟩⟩⟩⟩⟩⟩⟩⟩⟩⟩⟩⟩⟩⟩⟩⟩⟩⟩⟩⟩⟩⟩⟩⟩⟩⟩⟩⟩⟩⟩⟩⟩⟩⟩⟩⟩⟩⟩⟩⟩⟩⟩⟩⟩⟩⟩⟩⟩⟩⟩⟩⟩⟩⟩⟩⟩⟩⟩⟩⟩⟩⟩⟩⟩⟩⟩⟩⟩⟩⟩⟩⟩⟩⟩⟩⟩⟩⟩⟩
theorem kf12_45 : KF 12 45 (.inl (38400)) := Or.inl ⟨38400, rfl, by unfold in32; omega, (tg6 (List.mem_of_getElem? (i := 70) rfl) rfl)⟩
theorem kf12_62 : KF 12 62 (.inl (83200)) := Or.inl ⟨83200, rfl, by unfold in32; omega, (tg6 (List.mem_of_getElem? (i := 71) rfl) rfl)⟩
theorem kf12_88 : KF 12 88 (.inr (.inr 25)) := Or.inr (Or.inr ⟨24, _, rfl, by decide, List.mem_of_getElem? (i := 24) rfl⟩)
theorem kf12_126 : KF 12 126 (.inr (.inr 26)) := Or.inr (Or.inr ⟨25, _, rfl, by decide, List.mem_of_getElem? (i := 25) rfl⟩)
theorem kf12_209 : KF 12 209 (.inr (.inl (1000000))) := Or.inr (Or.inl ⟨(1000000), rfl, by unfold in64; omega, (tg7 (List.mem_of_getElem? (i := 102) rfl) rfl)⟩)
theorem kf12_211 : KF 12 211 (.inr (.inl (-1000000))) := Or.inr (Or.inl ⟨(-1000000), rfl, by unfold in64; omega, (tg7 (List.mem_of_getElem? (i := 103) rfl) rfl)⟩)
theorem kf12_253 : KF 12 253 (.inr (.inl (99))) := Or.inr (Or.inl ⟨(99), rfl, by unfold in64; omega, (tg7 (List.mem_of_getElem? (i := 139) rfl) rfl)⟩)
theorem kf12_273 : KF 12 273 (.inr (.inl (9))) := Or.inr (Or.inl ⟨(9), rfl, by unfold in64; omega, (tg7 (List.mem_of_getElem? (i := 160) rfl) rfl)⟩)
theorem kf12_275 : KF 12 275 (.inr (.inl (10))) := Or.inr (Or.inl ⟨(10), rfl, by unfold in64; omega, (tg7 (List.mem_of_getElem? (i := 165) rfl) rfl)⟩)
theorem kf12_277 : KF 12 277 (.inr (.inl (1000))) := Or.inr (Or.inl ⟨(1000), rfl, by unfold in64; omega, (tg7 (List.mem_of_getElem? (i := 183) rfl) rfl)⟩)
theorem kf12_279 : KF 12 279 (.inr (.inl (1999))) := Or.inr (Or.inl ⟨(1999), rfl, by unfold in64; omega, (tg7 (List.mem_of_getElem? (i := 184) rfl) rfl)⟩)
theorem kf12_281 : KF 12 281 (.inr (.inl (100))) := Or.inr (Or.inl ⟨(100), rfl, by unfold in64; omega, (tg7 (List.mem_of_getElem? (i := 185) rfl) rfl)⟩)
theorem kf12_283 : KF 12 283 (.inr (.inl (2000))) := Or.inr (Or.inl ⟨(2000), rfl, by unfold in64; omega, (tg7 (List.mem_of_getElem? (i := 186) rfl) rfl)⟩)
theorem kf12_285 : KF 12 285 (.inr (.inl (2009))) := Or.inr (Or.inl ⟨(2009), rfl, by unfold in64; omega, (tg7 (List.mem_of_getElem? (i := 187) rfl) rfl)⟩)
theorem kf12_287 : KF 12 287 (.inr (.inl (3000))) := Or.inr (Or.inl ⟨(3000), rfl, by unfold in64; omega, (tg7 (List.mem_of_getElem? (i := 188) rfl) rfl)⟩)
theorem kf12_289 : KF 12 289 (.inr (.inl (3099))) := Or.inr (Or.inl ⟨(3099), rfl, by unfold in64; omega, (tg7 (List.mem_of_getElem? (i := 189) rfl) rfl)⟩)
theorem kf12_300 : KF 12 300 (.inr (.inl (3))) := Or.inr (Or.inl ⟨(3), rfl, by unfold in64; omega, (tg7 (List.mem_of_getElem? (i := 170) rfl) rfl)⟩)
theorem kf12_311 : KF 12 311 (.inl (1103515245)) := Or.inl ⟨1103515245, rfl, by unfold in32; omega, (tg7 (List.mem_of_getElem? (i := 215) rfl) rfl)⟩
theorem kf12_318 : KF 12 318 (.inr (.inl (40))) := Or.inr (Or.inl ⟨(40), rfl, by unfold in64; omega, (tg7 (List.mem_of_getElem? (i := 206) rfl) rfl)⟩)
theorem kf12_326 : KF 12 326 (.inl (268435456)) := Or.inl ⟨268435456, rfl, by unfold in32; omega, (tg7 (List.mem_of_getElem? (i := 236) rfl) rfl)⟩
theorem kf12_355 : KF 12 355 (.inr (.inl (-2))) := Or.inr (Or.inl ⟨(-2), rfl, by unfold in64; omega, (tg8 (List.mem_of_getElem? (i := 31) rfl) rfl)⟩)
theorem kf12_357 : KF 12 357 (.inr (.inl (12))) := Or.inr (Or.inl ⟨(12), rfl, by unfold in64; omega, (tg8 (List.mem_of_getElem? (i := 32) rfl) rfl)⟩)
theorem kf12_359 : KF 12 359 (.inr (.inl (-3))) := Or.inr (Or.inl ⟨(-3), rfl, by unfold in64; omega, (tg8 (List.mem_of_getElem? (i := 33) rfl) rfl)⟩)
theorem kf12_378 : KF 12 378 (.inr (.inl (-1))) := Or.inr (Or.inl ⟨(-1), rfl, by unfold in64; omega, (tg8 (List.mem_of_getElem? (i := 90) rfl) rfl)⟩)
theorem kf12_425 : KF 12 425 (.inr (.inl (6))) := Or.inr (Or.inl ⟨(6), rfl, by unfold in64; omega, (tg8 (List.mem_of_getElem? (i := 163) rfl) rfl)⟩)
theorem kf12_430 : KF 12 430 (.inr (.inl (-7))) := Or.inr (Or.inl ⟨(-7), rfl, by unfold in64; omega, (tg8 (List.mem_of_getElem? (i := 187) rfl) rfl)⟩)
theorem kfa12 : ∀ q ∈ (tbl 12).2.2.1, KFe 12 q := List.forall_mem_cons.mpr ⟨kf12_45, List.forall_mem_cons.mpr ⟨kf12_62, List.forall_mem_cons.mpr ⟨kf12_88, List.forall_mem_cons.mpr ⟨kf12_126, List.forall_mem_cons.mpr ⟨kf12_209, List.forall_mem_cons.mpr ⟨kf12_211, List.forall_mem_cons.mpr ⟨kf12_253, List.forall_mem_cons.mpr ⟨kf12_273, List.forall_mem_cons.mpr ⟨kf12_275, List.forall_mem_cons.mpr ⟨kf12_277, List.forall_mem_cons.mpr ⟨kf12_279, List.forall_mem_cons.mpr ⟨kf12_281, List.forall_mem_cons.mpr ⟨kf12_283, List.forall_mem_cons.mpr ⟨kf12_285, List.forall_mem_cons.mpr ⟨kf12_287, List.forall_mem_cons.mpr ⟨kf12_289, List.forall_mem_cons.mpr ⟨kf12_300, List.forall_mem_cons.mpr ⟨kf12_311, List.forall_mem_cons.mpr ⟨kf12_318, List.forall_mem_cons.mpr ⟨kf12_326, List.forall_mem_cons.mpr ⟨kf12_355, List.forall_mem_cons.mpr ⟨kf12_357, List.forall_mem_cons.mpr ⟨kf12_359, List.forall_mem_cons.mpr ⟨kf12_378, List.forall_mem_cons.mpr ⟨kf12_425, List.forall_mem_cons.mpr ⟨kf12_430, fun _ h => absurd h List.not_mem_nil⟩⟩⟩⟩⟩⟩⟩⟩⟩⟩⟩⟩⟩⟩⟩⟩⟩⟩⟩⟩⟩⟩⟩⟩⟩⟩
theorem sfa12 : ∀ q ∈ (tbl 12).2.2.2.2.2, SFe 12 q := fun _ h => absurd h List.not_mem_nil
theorem cf13_9 : CF 13 9 2 1 mX11_init := Or.inr (Or.inr ⟨mfX11_init, Or.inr (Or.inr (Or.inl ⟨rfl, (tg1 (List.mem_of_getElem? (i := 26) rfl) rfl), (tg1 (List.mem_of_getElem? (i := 27) rfl) rfl), rfl, rfl, pmX11_init⟩))⟩)
theorem cf13_12 : CF 13 12 2 1 mX12_init := Or.inr (Or.inr ⟨mfX12_init, Or.inr (Or.inr (Or.inl ⟨rfl, (tg6 (List.mem_of_getElem? (i := 66) rfl) rfl), (tg6 (List.mem_of_getElem? (i := 67) rfl) rfl), rfl, rfl, pmX12_init⟩))⟩)
theorem cf13_13 : CF 13 13 0 6 mX11_feed := Or.inr (Or.inr ⟨mfX11_feed, Or.inl ⟨rfl, (tg2 (List.mem_of_getElem? (i := 86) rfl) rfl), (tg2 (List.mem_of_getElem? (i := 87) rfl) rfl), (tg2 (List.mem_of_getElem? (i := 88) rfl) rfl), pmX11_feed, by decide⟩⟩)
theorem cf13_17 : CF 13 17 0 6 mX12_feed := Or.inr (Or.inr ⟨mfX12_feed, Or.inl ⟨rfl, (tg6 (List.mem_of_getElem? (i := 191) rfl) rfl), (tg6 (List.mem_of_getElem? (i := 192) rfl) rfl), (tg6 (List.mem_of_getElem? (i := 193) rfl) rfl), pmX12_feed, by decide⟩⟩)
theorem cf13_18 : CF 13 18 0 2 mX11_pool := Or.inr (Or.inr ⟨mfX11_pool, Or.inl ⟨rfl, (tg2 (List.mem_of_getElem? (i := 94) rfl) rfl), (tg2 (List.mem_of_getElem? (i := 95) rfl) rfl), (tg2 (List.mem_of_getElem? (i := 96) rfl) rfl), pmX11_pool, by decide⟩⟩)
theorem cf13_22 : CF 13 22 0 2 mX12_pool := Or.inr (Or.inr ⟨mfX12_pool, Or.inl ⟨rfl, (tg6 (List.mem_of_getElem? (i := 195) rfl) rfl), (tg6 (List.mem_of_getElem? (i := 196) rfl) rfl), (tg6 (List.mem_of_getElem? (i := 197) rfl) rfl), pmX12_pool, by decide⟩⟩)
theorem cf13_23 : CF 13 23 0 2 mX11_fault := Or.inr (Or.inr ⟨mfX11_fault, Or.inl ⟨rfl, (tg3 (List.mem_of_getElem? (i := 129) rfl) rfl), (tg3 (List.mem_of_getElem? (i := 130) rfl) rfl), (tg3 (List.mem_of_getElem? (i := 131) rfl) rfl), pmX11_fault, by decide⟩⟩)
theorem cf13_26 : CF 13 26 0 2 mX12_fault := Or.inr (Or.inr ⟨mfX12_fault, Or.inl ⟨rfl, (tg7 (List.mem_of_getElem? (i := 64) rfl) rfl), (tg7 (List.mem_of_getElem? (i := 65) rfl) rfl), (tg7 (List.mem_of_getElem? (i := 66) rfl) rfl), pmX12_fault, by decide⟩⟩)
theorem cf13_27 : CF 13 27 0 3 mX11_thing := Or.inr (Or.inr ⟨mfX11_thing, Or.inl ⟨rfl, (tg3 (List.mem_of_getElem? (i := 133) rfl) rfl), (tg3 (List.mem_of_getElem? (i := 134) rfl) rfl), (tg3 (List.mem_of_getElem? (i := 135) rfl) rfl), pmX11_thing, by decide⟩⟩)
theorem cf13_31 : CF 13 31 0 3 mX12_thing := Or.inr (Or.inr ⟨mfX12_thing, Or.inl ⟨rfl, (tg7 (List.mem_of_getElem? (i := 68) rfl) rfl), (tg7 (List.mem_of_getElem? (i := 69) rfl) rfl), (tg7 (List.mem_of_getElem? (i := 70) rfl) rfl), pmX12_thing, by decide⟩⟩)
theorem cf13_32 : CF 13 32 0 3 mX11_goer := Or.inr (Or.inr ⟨mfX11_goer, Or.inl ⟨rfl, (tg3 (List.mem_of_getElem? (i := 144) rfl) rfl), (tg3 (List.mem_of_getElem? (i := 145) rfl) rfl), (tg3 (List.mem_of_getElem? (i := 146) rfl) rfl), pmX11_goer, by decide⟩⟩)
theorem cf13_35 : CF 13 35 0 3 mX12_goer := Or.inr (Or.inr ⟨mfX12_goer, Or.inl ⟨rfl, (tg7 (List.mem_of_getElem? (i := 76) rfl) rfl), (tg7 (List.mem_of_getElem? (i := 77) rfl) rfl), (tg7 (List.mem_of_getElem? (i := 78) rfl) rfl), pmX12_goer, by decide⟩⟩)
theorem cf13_36 : CF 13 36 0 2 mX11_shows := Or.inr (Or.inr ⟨mfX11_shows, Or.inl ⟨rfl, (tg3 (List.mem_of_getElem? (i := 184) rfl) rfl), (tg3 (List.mem_of_getElem? (i := 185) rfl) rfl), (tg3 (List.mem_of_getElem? (i := 186) rfl) rfl), pmX11_shows, by decide⟩⟩)
theorem cf13_39 : CF 13 39 0 2 mX12_shows := Or.inr (Or.inr ⟨mfX12_shows, Or.inl ⟨rfl, (tg7 (List.mem_of_getElem? (i := 107) rfl) rfl), (tg7 (List.mem_of_getElem? (i := 108) rfl) rfl), (tg7 (List.mem_of_getElem? (i := 109) rfl) rfl), pmX12_shows, by decide⟩⟩)
theorem cf13_40 : CF 13 40 0 1 mX11_truthful := Or.inr (Or.inr ⟨mfX11_truthful, Or.inl ⟨rfl, (tg3 (List.mem_of_getElem? (i := 188) rfl) rfl), (tg3 (List.mem_of_getElem? (i := 189) rfl) rfl), (tg3 (List.mem_of_getElem? (i := 190) rfl) rfl), pmX11_truthful, by decide⟩⟩)
theorem cf13_44 : CF 13 44 0 1 mX12_truthful := Or.inr (Or.inr ⟨mfX12_truthful, Or.inl ⟨rfl, (tg7 (List.mem_of_getElem? (i := 111) rfl) rfl), (tg7 (List.mem_of_getElem? (i := 112) rfl) rfl), (tg7 (List.mem_of_getElem? (i := 113) rfl) rfl), pmX12_truthful, by decide⟩⟩)
theorem cf13_45 : CF 13 45 0 2 mX11_dive := Or.inr (Or.inr ⟨mfX11_dive, Or.inl ⟨rfl, (tg3 (List.mem_of_getElem? (i := 192) rfl) rfl), (tg3 (List.mem_of_getElem? (i := 193) rfl) rfl), (tg3 (List.mem_of_getElem? (i := 194) rfl) rfl), pmX11_dive, by decide⟩⟩)
theorem cf13_48 : CF 13 48 0 2 mX12_dive := Or.inr (Or.inr ⟨mfX12_dive, Or.inl ⟨rfl, (tg7 (List.mem_of_getElem? (i := 115) rfl) rfl), (tg7 (List.mem_of_getElem? (i := 116) rfl) rfl), (tg7 (List.mem_of_getElem? (i := 117) rfl) rfl), pmX12_dive, by decide⟩⟩)
theorem cf13_49 : CF 13 49 0 3 mX11_say := Or.inr (Or.inr ⟨mfX11_say, Or.inl ⟨rfl, (tg3 (List.mem_of_getElem? (i := 213) rfl) rfl), (tg3 (List.mem_of_getElem? (i := 214) rfl) rfl), (tg3 (List.mem_of_getElem? (i := 215) rfl) rfl), pmX11_say, by decide⟩⟩)
theorem cf13_52 : CF 13 52 0 3 mX12_say := Or.inr (Or.inr ⟨mfX12_say, Or.inl ⟨rfl, (tg7 (List.mem_of_getElem? (i := 131) rfl) rfl), (tg7 (List.mem_of_getElem? (i := 132) rfl) rfl), (tg7 (List.mem_of_getElem? (i := 133) rfl) rfl), pmX12_say, by decide⟩⟩)
theorem cf13_53 : CF 13 53 0 2 mX11_wipe := Or.inr (Or.inr ⟨mfX11_wipe, Or.inl ⟨rfl, (tg3 (List.mem_of_getElem? (i := 221) rfl) rfl), (tg3 (List.mem_of_getElem? (i := 222) rfl) rfl), (tg3 (List.mem_of_getElem? (i := 223) rfl) rfl), pmX11_wipe, by decide⟩⟩)
theorem cf13_56 : CF 13 56 0 2 mX12_wipe := Or.inr (Or.inr ⟨mfX12_wipe, Or.inl ⟨rfl, (tg7 (List.mem_of_getElem? (i := 144) rfl) rfl), (tg7 (List.mem_of_getElem? (i := 145) rfl) rfl), (tg7 (List.mem_of_getElem? (i := 146) rfl) rfl), pmX12_wipe, by decide⟩⟩)
theorem cf13_57 : CF 13 57 0 3 mX11_breath := Or.inr (Or.inr ⟨mfX11_breath, Or.inl ⟨rfl, (tg3 (List.mem_of_getElem? (i := 230) rfl) rfl), (tg3 (List.mem_of_getElem? (i := 231) rfl) rfl), (tg3 (List.mem_of_getElem? (i := 232) rfl) rfl), pmX11_breath, by decide⟩⟩)
theorem cf13_60 : CF 13 60 0 3 mX12_breath := Or.inr (Or.inr ⟨mfX12_breath, Or.inl ⟨rfl, (tg7 (List.mem_of_getElem? (i := 152) rfl) rfl), (tg7 (List.mem_of_getElem? (i := 153) rfl) rfl), (tg7 (List.mem_of_getElem? (i := 154) rfl) rfl), pmX12_breath, by decide⟩⟩)
theorem cf13_61 : CF 13 61 0 3 mX11_bold := Or.inr (Or.inr ⟨mfX11_bold, Or.inl ⟨rfl, (tg3 (List.mem_of_getElem? (i := 234) rfl) rfl), (tg3 (List.mem_of_getElem? (i := 235) rfl) rfl), (tg3 (List.mem_of_getElem? (i := 236) rfl) rfl), pmX11_bold, by decide⟩⟩)
theorem cf13_64 : CF 13 64 0 3 mX12_bold := Or.inr (Or.inr ⟨mfX12_bold, Or.inl ⟨rfl, (tg7 (List.mem_of_getElem? (i := 156) rfl) rfl), (tg7 (List.mem_of_getElem? (i := 157) rfl) rfl), (tg7 (List.mem_of_getElem? (i := 158) rfl) rfl), pmX12_bold, by decide⟩⟩)
theorem cf13_65 : CF 13 65 0 2 mX11_undo := Or.inr (Or.inr ⟨mfX11_undo, Or.inl ⟨rfl, (tg4 (List.mem_of_getElem? (i := 2) rfl) rfl), (tg4 (List.mem_of_getElem? (i := 3) rfl) rfl), (tg4 (List.mem_of_getElem? (i := 4) rfl) rfl), pmX11_undo, by decide⟩⟩)
theorem cf13_68 : CF 13 68 0 2 mX12_undo := Or.inr (Or.inr ⟨mfX12_undo, Or.inl ⟨rfl, (tg7 (List.mem_of_getElem? (i := 161) rfl) rfl), (tg7 (List.mem_of_getElem? (i := 162) rfl) rfl), (tg7 (List.mem_of_getElem? (i := 163) rfl) rfl), pmX12_undo, by decide⟩⟩)
theorem cf13_69 : CF 13 69 0 3 mX11_judge := Or.inr (Or.inr ⟨mfX11_judge, Or.inl ⟨rfl, (tg4 (List.mem_of_getElem? (i := 10) rfl) rfl), (tg4 (List.mem_of_getElem? (i := 11) rfl) rfl), (tg4 (List.mem_of_getElem? (i := 12) rfl) rfl), pmX11_judge, by decide⟩⟩)
theorem cf13_72 : CF 13 72 0 3 mX12_judge := Or.inr (Or.inr ⟨mfX12_judge, Or.inl ⟨rfl, (tg7 (List.mem_of_getElem? (i := 166) rfl) rfl), (tg7 (List.mem_of_getElem? (i := 167) rfl) rfl), (tg7 (List.mem_of_getElem? (i := 168) rfl) rfl), pmX12_judge, by decide⟩⟩)
theorem cf13_73 : CF 13 73 0 2 mX11_perform := Or.inr (Or.inr ⟨mfX11_perform, Or.inl ⟨rfl, (tg4 (List.mem_of_getElem? (i := 28) rfl) rfl), (tg4 (List.mem_of_getElem? (i := 29) rfl) rfl), (tg4 (List.mem_of_getElem? (i := 30) rfl) rfl), pmX11_perform, by decide⟩⟩)
theorem cf13_76 : CF 13 76 0 2 mX12_perform := Or.inr (Or.inr ⟨mfX12_perform, Or.inl ⟨rfl, (tg7 (List.mem_of_getElem? (i := 198) rfl) rfl), (tg7 (List.mem_of_getElem? (i := 199) rfl) rfl), (tg7 (List.mem_of_getElem? (i := 200) rfl) rfl), pmX12_perform, by decide⟩⟩)
theorem cf13_77 : CF 13 77 0 3 mX11_summer := Or.inr (Or.inr ⟨mfX11_summer, Or.inl ⟨rfl, (tg4 (List.mem_of_getElem? (i := 32) rfl) rfl), (tg4 (List.mem_of_getElem? (i := 33) rfl) rfl), (tg4 (List.mem_of_getElem? (i := 34) rfl) rfl), pmX11_summer, by decide⟩⟩)
theorem cf13_80 : CF 13 80 0 3 mX12_summer := Or.inr (Or.inr ⟨mfX12_summer, Or.inl ⟨rfl, (tg7 (List.mem_of_getElem? (i := 202) rfl) rfl), (tg7 (List.mem_of_getElem? (i := 203) rfl) rfl), (tg7 (List.mem_of_getElem? (i := 204) rfl) rfl), pmX12_summer, by decide⟩⟩)
theorem cf13_81 : CF 13 81 0 3 mX11_soonest := Or.inr (Or.inr ⟨mfX11_soonest, Or.inl ⟨rfl, (tg4 (List.mem_of_getElem? (i := 43) rfl) rfl), (tg4 (List.mem_of_getElem? (i := 44) rfl) rfl), (tg4 (List.mem_of_getElem? (i := 45) rfl) rfl), pmX11_soonest, by decide⟩⟩)
theorem cf13_84 : CF 13 84 0 3 mX12_soonest := Or.inr (Or.inr ⟨mfX12_soonest, Or.inl ⟨rfl, (tg7 (List.mem_of_getElem? (i := 216) rfl) rfl), (tg7 (List.mem_of_getElem? (i := 217) rfl) rfl), (tg7 (List.mem_of_getElem? (i := 218) rfl) rfl), pmX12_soonest, by decide⟩⟩)
theorem cf13_85 : CF 13 85 0 4 mX11_way := Or.inr (Or.inr ⟨mfX11_way, Or.inl ⟨rfl, (tg4 (List.mem_of_getElem? (i := 170) rfl) rfl), (tg4 (List.mem_of_getElem? (i := 171) rfl) rfl), (tg4 (List.mem_of_getElem? (i := 172) rfl) rfl), pmX11_way, by decide⟩⟩)
theorem cf13_89 : CF 13 89 0 4 mX12_way := Or.inr (Or.inr ⟨mfX12_way, Or.inl ⟨rfl, (tg8 (List.mem_of_getElem? (i := 11) rfl) rfl), (tg8 (List.mem_of_getElem? (i := 12) rfl) rfl), (tg8 (List.mem_of_getElem? (i := 13) rfl) rfl), pmX12_way, by decide⟩⟩)
theorem cf13_90 : CF 13 90 0 3 mX11_tells := Or.inr (Or.inr ⟨mfX11_tells, Or.inl ⟨rfl, (tg4 (List.mem_of_getElem? (i := 178) rfl) rfl), (tg4 (List.mem_of_getElem? (i := 179) rfl) rfl), (tg4 (List.mem_of_getElem? (i := 180) rfl) rfl), pmX11_tells, by decide⟩⟩)
theorem cf13_93 : CF 13 93 0 3 mX12_tells := Or.inr (Or.inr ⟨mfX12_tells, Or.inl ⟨rfl, (tg8 (List.mem_of_getElem? (i := 19) rfl) rfl), (tg8 (List.mem_of_getElem? (i := 20) rfl) rfl), (tg8 (List.mem_of_getElem? (i := 21) rfl) rfl), pmX12_tells, by decide⟩⟩)
theorem cf13_94 : CF 13 94 0 4 mX11_tellsBy := Or.inr (Or.inr ⟨mfX11_tellsBy, Or.inl ⟨rfl, (tg4 (List.mem_of_getElem? (i := 190) rfl) rfl), (tg4 (List.mem_of_getElem? (i := 191) rfl) rfl), (tg4 (List.mem_of_getElem? (i := 192) rfl) rfl), pmX11_tellsBy, by decide⟩⟩)
theorem cf13_97 : CF 13 97 0 4 mX12_tellsBy := Or.inr (Or.inr ⟨mfX12_tellsBy, Or.inl ⟨rfl, (tg8 (List.mem_of_getElem? (i := 23) rfl) rfl), (tg8 (List.mem_of_getElem? (i := 24) rfl) rfl), (tg8 (List.mem_of_getElem? (i := 25) rfl) rfl), pmX12_tellsBy, by decide⟩⟩)
theorem cf13_98 : CF 13 98 0 3 mX11_rows := Or.inr (Or.inr ⟨mfX11_rows, Or.inl ⟨rfl, (tg4 (List.mem_of_getElem? (i := 194) rfl) rfl), (tg4 (List.mem_of_getElem? (i := 195) rfl) rfl), (tg4 (List.mem_of_getElem? (i := 196) rfl) rfl), pmX11_rows, by decide⟩⟩)
theorem cf13_102 : CF 13 102 0 3 mX12_rows := Or.inr (Or.inr ⟨mfX12_rows, Or.inl ⟨rfl, (tg8 (List.mem_of_getElem? (i := 27) rfl) rfl), (tg8 (List.mem_of_getElem? (i := 28) rfl) rfl), (tg8 (List.mem_of_getElem? (i := 29) rfl) rfl), pmX12_rows, by decide⟩⟩)
theorem cf13_103 : CF 13 103 0 2 mX11_needed := Or.inr (Or.inr ⟨mfX11_needed, Or.inl ⟨rfl, (tg5 (List.mem_of_getElem? (i := 28) rfl) rfl), (tg5 (List.mem_of_getElem? (i := 29) rfl) rfl), (tg5 (List.mem_of_getElem? (i := 30) rfl) rfl), pmX11_needed, by decide⟩⟩)
theorem cf13_106 : CF 13 106 0 2 mX12_needed := Or.inr (Or.inr ⟨mfX12_needed, Or.inl ⟨rfl, (tg8 (List.mem_of_getElem? (i := 50) rfl) rfl), (tg8 (List.mem_of_getElem? (i := 51) rfl) rfl), (tg8 (List.mem_of_getElem? (i := 52) rfl) rfl), pmX12_needed, by decide⟩⟩)
theorem cf13_107 : CF 13 107 0 2 mX11_fewest := Or.inr (Or.inr ⟨mfX11_fewest, Or.inl ⟨rfl, (tg5 (List.mem_of_getElem? (i := 37) rfl) rfl), (tg5 (List.mem_of_getElem? (i := 38) rfl) rfl), (tg5 (List.mem_of_getElem? (i := 39) rfl) rfl), pmX11_fewest, by decide⟩⟩)
theorem cf13_110 : CF 13 110 0 2 mX12_fewest := Or.inr (Or.inr ⟨mfX12_fewest, Or.inl ⟨rfl, (tg8 (List.mem_of_getElem? (i := 58) rfl) rfl), (tg8 (List.mem_of_getElem? (i := 59) rfl) rfl), (tg8 (List.mem_of_getElem? (i := 60) rfl) rfl), pmX12_fewest, by decide⟩⟩)
theorem cf13_111 : CF 13 111 0 2 mX11_deepest := Or.inr (Or.inr ⟨mfX11_deepest, Or.inl ⟨rfl, (tg5 (List.mem_of_getElem? (i := 41) rfl) rfl), (tg5 (List.mem_of_getElem? (i := 42) rfl) rfl), (tg5 (List.mem_of_getElem? (i := 43) rfl) rfl), pmX11_deepest, by decide⟩⟩)
theorem cf13_114 : CF 13 114 0 2 mX12_deepest := Or.inr (Or.inr ⟨mfX12_deepest, Or.inl ⟨rfl, (tg8 (List.mem_of_getElem? (i := 62) rfl) rfl), (tg8 (List.mem_of_getElem? (i := 63) rfl) rfl), (tg8 (List.mem_of_getElem? (i := 64) rfl) rfl), pmX12_deepest, by decide⟩⟩)
theorem cf13_115 : CF 13 115 0 2 mX11_shallowest := Or.inr (Or.inr ⟨mfX11_shallowest, Or.inl ⟨rfl, (tg5 (List.mem_of_getElem? (i := 47) rfl) rfl), (tg5 (List.mem_of_getElem? (i := 48) rfl) rfl), (tg5 (List.mem_of_getElem? (i := 49) rfl) rfl), pmX11_shallowest, by decide⟩⟩)
theorem cf13_118 : CF 13 118 0 2 mX12_shallowest := Or.inr (Or.inr ⟨mfX12_shallowest, Or.inl ⟨rfl, (tg8 (List.mem_of_getElem? (i := 66) rfl) rfl), (tg8 (List.mem_of_getElem? (i := 67) rfl) rfl), (tg8 (List.mem_of_getElem? (i := 68) rfl) rfl), pmX12_shallowest, by decide⟩⟩)
theorem cf13_119 : CF 13 119 0 2 mX11_numbersTold := Or.inr (Or.inr ⟨mfX11_numbersTold, Or.inl ⟨rfl, (tg5 (List.mem_of_getElem? (i := 52) rfl) rfl), (tg5 (List.mem_of_getElem? (i := 53) rfl) rfl), (tg5 (List.mem_of_getElem? (i := 54) rfl) rfl), pmX11_numbersTold, by decide⟩⟩)
theorem cf13_122 : CF 13 122 0 2 mX12_numbersTold := Or.inr (Or.inr ⟨mfX12_numbersTold, Or.inl ⟨rfl, (tg8 (List.mem_of_getElem? (i := 70) rfl) rfl), (tg8 (List.mem_of_getElem? (i := 71) rfl) rfl), (tg8 (List.mem_of_getElem? (i := 72) rfl) rfl), pmX12_numbersTold, by decide⟩⟩)
theorem cf13_123 : CF 13 123 0 2 mX11_possible := Or.inr (Or.inr ⟨mfX11_possible, Or.inl ⟨rfl, (tg5 (List.mem_of_getElem? (i := 83) rfl) rfl), (tg5 (List.mem_of_getElem? (i := 84) rfl) rfl), (tg5 (List.mem_of_getElem? (i := 85) rfl) rfl), pmX11_possible, by decide⟩⟩)
theorem cf13_126 : CF 13 126 0 2 mX12_possible := Or.inr (Or.inr ⟨mfX12_possible, Or.inl ⟨rfl, (tg8 (List.mem_of_getElem? (i := 74) rfl) rfl), (tg8 (List.mem_of_getElem? (i := 75) rfl) rfl), (tg8 (List.mem_of_getElem? (i := 76) rfl) rfl), pmX12_possible, by decide⟩⟩)
theorem cf13_127 : CF 13 127 0 2 mX11_stands := Or.inr (Or.inr ⟨mfX11_stands, Or.inl ⟨rfl, (tg5 (List.mem_of_getElem? (i := 87) rfl) rfl), (tg5 (List.mem_of_getElem? (i := 88) rfl) rfl), (tg5 (List.mem_of_getElem? (i := 89) rfl) rfl), pmX11_stands, by decide⟩⟩)
theorem cf13_130 : CF 13 130 0 2 mX12_stands := Or.inr (Or.inr ⟨mfX12_stands, Or.inl ⟨rfl, (tg8 (List.mem_of_getElem? (i := 78) rfl) rfl), (tg8 (List.mem_of_getElem? (i := 79) rfl) rfl), (tg8 (List.mem_of_getElem? (i := 80) rfl) rfl), pmX12_stands, by decide⟩⟩)
theorem cf13_131 : CF 13 131 0 2 mX11_posted := Or.inr (Or.inr ⟨mfX11_posted, Or.inl ⟨rfl, (tg5 (List.mem_of_getElem? (i := 91) rfl) rfl), (tg5 (List.mem_of_getElem? (i := 92) rfl) rfl), (tg5 (List.mem_of_getElem? (i := 93) rfl) rfl), pmX11_posted, by decide⟩⟩)
theorem cf13_135 : CF 13 135 0 2 mX12_posted := Or.inr (Or.inr ⟨mfX12_posted, Or.inl ⟨rfl, (tg8 (List.mem_of_getElem? (i := 82) rfl) rfl), (tg8 (List.mem_of_getElem? (i := 83) rfl) rfl), (tg8 (List.mem_of_getElem? (i := 84) rfl) rfl), pmX12_posted, by decide⟩⟩)
theorem cf13_136 : CF 13 136 0 3 mX11_whoPosted := Or.inr (Or.inr ⟨mfX11_whoPosted, Or.inl ⟨rfl, (tg5 (List.mem_of_getElem? (i := 110) rfl) rfl), (tg5 (List.mem_of_getElem? (i := 111) rfl) rfl), (tg5 (List.mem_of_getElem? (i := 112) rfl) rfl), pmX11_whoPosted, by decide⟩⟩)
theorem cf13_139 : CF 13 139 0 3 mX12_whoPosted := Or.inr (Or.inr ⟨mfX12_whoPosted, Or.inl ⟨rfl, (tg8 (List.mem_of_getElem? (i := 95) rfl) rfl), (tg8 (List.mem_of_getElem? (i := 96) rfl) rfl), (tg8 (List.mem_of_getElem? (i := 97) rfl) rfl), pmX12_whoPosted, by decide⟩⟩)
theorem cf13_140 : CF 13 140 0 2 mX11_suspects := Or.inr (Or.inr ⟨mfX11_suspects, Or.inl ⟨rfl, (tg5 (List.mem_of_getElem? (i := 130) rfl) rfl), (tg5 (List.mem_of_getElem? (i := 131) rfl) rfl), (tg5 (List.mem_of_getElem? (i := 132) rfl) rfl), pmX11_suspects, by decide⟩⟩)
theorem cf13_143 : CF 13 143 0 2 mX12_suspects := Or.inr (Or.inr ⟨mfX12_suspects, Or.inl ⟨rfl, (tg8 (List.mem_of_getElem? (i := 107) rfl) rfl), (tg8 (List.mem_of_getElem? (i := 108) rfl) rfl), (tg8 (List.mem_of_getElem? (i := 109) rfl) rfl), pmX12_suspects, by decide⟩⟩)
theorem cf13_144 : CF 13 144 0 3 mX11_bolds := Or.inr (Or.inr ⟨mfX11_bolds, Or.inl ⟨rfl, (tg5 (List.mem_of_getElem? (i := 142) rfl) rfl), (tg5 (List.mem_of_getElem? (i := 143) rfl) rfl), (tg5 (List.mem_of_getElem? (i := 144) rfl) rfl), pmX11_bolds, by decide⟩⟩)
theorem cf13_147 : CF 13 147 0 3 mX12_bolds := Or.inr (Or.inr ⟨mfX12_bolds, Or.inl ⟨rfl, (tg8 (List.mem_of_getElem? (i := 111) rfl) rfl), (tg8 (List.mem_of_getElem? (i := 112) rfl) rfl), (tg8 (List.mem_of_getElem? (i := 113) rfl) rfl), pmX12_bolds, by decide⟩⟩)
theorem cf13_148 : CF 13 148 0 3 mX11_nexts := Or.inr (Or.inr ⟨mfX11_nexts, Or.inl ⟨rfl, (tg5 (List.mem_of_getElem? (i := 154) rfl) rfl), (tg5 (List.mem_of_getElem? (i := 155) rfl) rfl), (tg5 (List.mem_of_getElem? (i := 156) rfl) rfl), pmX11_nexts, by decide⟩⟩)
theorem cf13_151 : CF 13 151 0 3 mX12_nexts := Or.inr (Or.inr ⟨mfX12_nexts, Or.inl ⟨rfl, (tg8 (List.mem_of_getElem? (i := 127) rfl) rfl), (tg8 (List.mem_of_getElem? (i := 128) rfl) rfl), (tg8 (List.mem_of_getElem? (i := 129) rfl) rfl), pmX12_nexts, by decide⟩⟩)
theorem cf13_152 : CF 13 152 0 4 mX11_forces := Or.inr (Or.inr ⟨mfX11_forces, Or.inl ⟨rfl, (tg5 (List.mem_of_getElem? (i := 158) rfl) rfl), (tg5 (List.mem_of_getElem? (i := 159) rfl) rfl), (tg5 (List.mem_of_getElem? (i := 160) rfl) rfl), pmX11_forces, by decide⟩⟩)
theorem cf13_155 : CF 13 155 0 4 mX12_forces := Or.inr (Or.inr ⟨mfX12_forces, Or.inl ⟨rfl, (tg8 (List.mem_of_getElem? (i := 131) rfl) rfl), (tg8 (List.mem_of_getElem? (i := 132) rfl) rfl), (tg8 (List.mem_of_getElem? (i := 133) rfl) rfl), pmX12_forces, by decide⟩⟩)
theorem cf13_156 : CF 13 156 0 4 mX11_best := Or.inr (Or.inr ⟨mfX11_best, Or.inl ⟨rfl, (tg5 (List.mem_of_getElem? (i := 229) rfl) rfl), (tg5 (List.mem_of_getElem? (i := 230) rfl) rfl), (tg5 (List.mem_of_getElem? (i := 231) rfl) rfl), pmX11_best, by decide⟩⟩)
theorem cf13_159 : CF 13 159 0 4 mX12_best := Or.inr (Or.inr ⟨mfX12_best, Or.inl ⟨rfl, (tg8 (List.mem_of_getElem? (i := 151) rfl) rfl), (tg8 (List.mem_of_getElem? (i := 152) rfl) rfl), (tg8 (List.mem_of_getElem? (i := 153) rfl) rfl), pmX12_best, by decide⟩⟩)
theorem cf13_160 : CF 13 160 0 3 mX11_power := Or.inr (Or.inr ⟨mfX11_power, Or.inl ⟨rfl, (tg5 (List.mem_of_getElem? (i := 237) rfl) rfl), (tg5 (List.mem_of_getElem? (i := 238) rfl) rfl), (tg5 (List.mem_of_getElem? (i := 239) rfl) rfl), pmX11_power, by decide⟩⟩)
theorem cf13_163 : CF 13 163 0 3 mX12_power := Or.inr (Or.inr ⟨mfX12_power, Or.inl ⟨rfl, (tg8 (List.mem_of_getElem? (i := 155) rfl) rfl), (tg8 (List.mem_of_getElem? (i := 156) rfl) rfl), (tg8 (List.mem_of_getElem? (i := 157) rfl) rfl), pmX12_power, by decide⟩⟩)
theorem cf13_164 : CF 13 164 0 4 mX11_chance := Or.inr (Or.inr ⟨mfX11_chance, Or.inl ⟨rfl, (tg6 (List.mem_of_getElem? (i := 1) rfl) rfl), (tg6 (List.mem_of_getElem? (i := 2) rfl) rfl), (tg6 (List.mem_of_getElem? (i := 3) rfl) rfl), pmX11_chance, by decide⟩⟩)
theorem cf13_168 : CF 13 168 0 4 mX12_chance := Or.inr (Or.inr ⟨mfX12_chance, Or.inl ⟨rfl, (tg8 (List.mem_of_getElem? (i := 159) rfl) rfl), (tg8 (List.mem_of_getElem? (i := 160) rfl) rfl), (tg8 (List.mem_of_getElem? (i := 161) rfl) rfl), pmX12_chance, by decide⟩⟩)
theorem cf13_169 : CF 13 169 0 2 mX11_likeliest := Or.inr (Or.inr ⟨mfX11_likeliest, Or.inl ⟨rfl, (tg6 (List.mem_of_getElem? (i := 17) rfl) rfl), (tg6 (List.mem_of_getElem? (i := 18) rfl) rfl), (tg6 (List.mem_of_getElem? (i := 19) rfl) rfl), pmX11_likeliest, by decide⟩⟩)
theorem cf13_172 : CF 13 172 0 2 mX12_likeliest := Or.inr (Or.inr ⟨mfX12_likeliest, Or.inl ⟨rfl, (tg8 (List.mem_of_getElem? (i := 175) rfl) rfl), (tg8 (List.mem_of_getElem? (i := 176) rfl) rfl), (tg8 (List.mem_of_getElem? (i := 177) rfl) rfl), pmX12_likeliest, by decide⟩⟩)
theorem cf13_173 : CF 13 173 0 4 mX11_numbers := Or.inr (Or.inr ⟨mfX11_numbers, Or.inl ⟨rfl, (tg6 (List.mem_of_getElem? (i := 21) rfl) rfl), (tg6 (List.mem_of_getElem? (i := 22) rfl) rfl), (tg6 (List.mem_of_getElem? (i := 23) rfl) rfl), pmX11_numbers, by decide⟩⟩)
theorem cf13_176 : CF 13 176 0 4 mX12_numbers := Or.inr (Or.inr ⟨mfX12_numbers, Or.inl ⟨rfl, (tg8 (List.mem_of_getElem? (i := 179) rfl) rfl), (tg8 (List.mem_of_getElem? (i := 180) rfl) rfl), (tg8 (List.mem_of_getElem? (i := 181) rfl) rfl), pmX12_numbers, by decide⟩⟩)
theorem cf13_179 : CF 13 179 0 4 mX11_write := Or.inr (Or.inr ⟨mfX11_write, Or.inl ⟨rfl, (tg6 (List.mem_of_getElem? (i := 32) rfl) rfl), (tg6 (List.mem_of_getElem? (i := 33) rfl) rfl), (tg6 (List.mem_of_getElem? (i := 34) rfl) rfl), pmX11_write, by decide⟩⟩)
theorem cf13_183 : CF 13 183 0 4 mX12_write := Or.inr (Or.inr ⟨mfX12_write, Or.inl ⟨rfl, (tg8 (List.mem_of_getElem? (i := 183) rfl) rfl), (tg8 (List.mem_of_getElem? (i := 184) rfl) rfl), (tg8 (List.mem_of_getElem? (i := 185) rfl) rfl), pmX12_write, by decide⟩⟩)
theorem cf13_184 : CF 13 184 0 4 mX11_lists := Or.inr (Or.inr ⟨mfX11_lists, Or.inl ⟨rfl, (tg6 (List.mem_of_getElem? (i := 42) rfl) rfl), (tg6 (List.mem_of_getElem? (i := 43) rfl) rfl), (tg6 (List.mem_of_getElem? (i := 44) rfl) rfl), pmX11_lists, by decide⟩⟩)
theorem cf13_187 : CF 13 187 0 4 mX12_lists := Or.inr (Or.inr ⟨mfX12_lists, Or.inl ⟨rfl, (tg8 (List.mem_of_getElem? (i := 191) rfl) rfl), (tg8 (List.mem_of_getElem? (i := 192) rfl) rfl), (tg8 (List.mem_of_getElem? (i := 193) rfl) rfl), pmX12_lists, by decide⟩⟩)
theorem cf13_188 : CF 13 188 0 2 mX11_image := Or.inr (Or.inr ⟨mfX11_image, Or.inl ⟨rfl, (tg6 (List.mem_of_getElem? (i := 46) rfl) rfl), (tg6 (List.mem_of_getElem? (i := 47) rfl) rfl), (tg6 (List.mem_of_getElem? (i := 48) rfl) rfl), pmX11_image, by decide⟩⟩)
theorem cf13_191 : CF 13 191 0 2 mX12_image := Or.inr (Or.inr ⟨mfX12_image, Or.inl ⟨rfl, (tg8 (List.mem_of_getElem? (i := 195) rfl) rfl), (tg8 (List.mem_of_getElem? (i := 196) rfl) rfl), (tg8 (List.mem_of_getElem? (i := 197) rfl) rfl), pmX12_image, by decide⟩⟩)
theorem cf13_192 : CF 13 192 0 2 mX11_restore := Or.inr (Or.inr ⟨mfX11_restore, Or.inl ⟨rfl, (tg6 (List.mem_of_getElem? (i := 50) rfl) rfl), (tg6 (List.mem_of_getElem? (i := 51) rfl) rfl), (tg6 (List.mem_of_getElem? (i := 52) rfl) rfl), pmX11_restore, by decide⟩⟩)
theorem cf13_195 : CF 13 195 0 2 mX12_restore := Or.inr (Or.inr ⟨mfX12_restore, Or.inl ⟨rfl, (tg8 (List.mem_of_getElem? (i := 199) rfl) rfl), (tg8 (List.mem_of_getElem? (i := 200) rfl) rfl), (tg8 (List.mem_of_getElem? (i := 201) rfl) rfl), pmX12_restore, by decide⟩⟩)
theorem cf13_196 : CF 13 196 0 2 mX11_count := Or.inr (Or.inr ⟨mfX11_count, Or.inl ⟨rfl, (tg6 (List.mem_of_getElem? (i := 54) rfl) rfl), (tg6 (List.mem_of_getElem? (i := 55) rfl) rfl), (tg6 (List.mem_of_getElem? (i := 56) rfl) rfl), pmX11_count, by decide⟩⟩)
theorem cf13_199 : CF 13 199 0 2 mX12_count := Or.inr (Or.inr ⟨mfX12_count, Or.inl ⟨rfl, (tg8 (List.mem_of_getElem? (i := 203) rfl) rfl), (tg8 (List.mem_of_getElem? (i := 204) rfl) rfl), (tg8 (List.mem_of_getElem? (i := 205) rfl) rfl), pmX12_count, by decide⟩⟩)
theorem cfa13 : ∀ q ∈ (tbl 13).2.1, CFe 13 q := List.forall_mem_cons.mpr ⟨cf13_9, List.forall_mem_cons.mpr ⟨cf13_12, List.forall_mem_cons.mpr ⟨cf13_13, List.forall_mem_cons.mpr ⟨cf13_17, List.forall_mem_cons.mpr ⟨cf13_18, List.forall_mem_cons.mpr ⟨cf13_22, List.forall_mem_cons.mpr ⟨cf13_23, List.forall_mem_cons.mpr ⟨cf13_26, List.forall_mem_cons.mpr ⟨cf13_27, List.forall_mem_cons.mpr ⟨cf13_31, List.forall_mem_cons.mpr ⟨cf13_32, List.forall_mem_cons.mpr ⟨cf13_35, List.forall_mem_cons.mpr ⟨cf13_36, List.forall_mem_cons.mpr ⟨cf13_39, List.forall_mem_cons.mpr ⟨cf13_40, List.forall_mem_cons.mpr ⟨cf13_44, List.forall_mem_cons.mpr ⟨cf13_45, List.forall_mem_cons.mpr ⟨cf13_48, List.forall_mem_cons.mpr ⟨cf13_49, List.forall_mem_cons.mpr ⟨cf13_52, List.forall_mem_cons.mpr ⟨cf13_53, List.forall_mem_cons.mpr ⟨cf13_56, List.forall_mem_cons.mpr ⟨cf13_57, List.forall_mem_cons.mpr ⟨cf13_60, List.forall_mem_cons.mpr ⟨cf13_61, List.forall_mem_cons.mpr ⟨cf13_64, List.forall_mem_cons.mpr ⟨cf13_65, List.forall_mem_cons.mpr ⟨cf13_68, List.forall_mem_cons.mpr ⟨cf13_69, List.forall_mem_cons.mpr ⟨cf13_72, List.forall_mem_cons.mpr ⟨cf13_73, List.forall_mem_cons.mpr ⟨cf13_76, List.forall_mem_cons.mpr ⟨cf13_77, List.forall_mem_cons.mpr ⟨cf13_80, List.forall_mem_cons.mpr ⟨cf13_81, List.forall_mem_cons.mpr ⟨cf13_84, List.forall_mem_cons.mpr ⟨cf13_85, List.forall_mem_cons.mpr ⟨cf13_89, List.forall_mem_cons.mpr ⟨cf13_90, List.forall_mem_cons.mpr ⟨cf13_93, List.forall_mem_cons.mpr ⟨cf13_94, List.forall_mem_cons.mpr ⟨cf13_97, List.forall_mem_cons.mpr ⟨cf13_98, List.forall_mem_cons.mpr ⟨cf13_102, List.forall_mem_cons.mpr ⟨cf13_103, List.forall_mem_cons.mpr ⟨cf13_106, List.forall_mem_cons.mpr ⟨cf13_107, List.forall_mem_cons.mpr ⟨cf13_110, List.forall_mem_cons.mpr ⟨cf13_111, List.forall_mem_cons.mpr ⟨cf13_114, List.forall_mem_cons.mpr ⟨cf13_115, List.forall_mem_cons.mpr ⟨cf13_118, List.forall_mem_cons.mpr ⟨cf13_119, List.forall_mem_cons.mpr ⟨cf13_122, List.forall_mem_cons.mpr ⟨cf13_123, List.forall_mem_cons.mpr ⟨cf13_126, List.forall_mem_cons.mpr ⟨cf13_127, List.forall_mem_cons.mpr ⟨cf13_130, List.forall_mem_cons.mpr ⟨cf13_131, List.forall_mem_cons.mpr ⟨cf13_135, List.forall_mem_cons.mpr ⟨cf13_136, List.forall_mem_cons.mpr ⟨cf13_139, List.forall_mem_cons.mpr ⟨cf13_140, List.forall_mem_cons.mpr ⟨cf13_143, List.forall_mem_cons.mpr ⟨cf13_144, List.forall_mem_cons.mpr ⟨cf13_147, List.forall_mem_cons.mpr ⟨cf13_148, List.forall_mem_cons.mpr ⟨cf13_151, List.forall_mem_cons.mpr ⟨cf13_152, List.forall_mem_cons.mpr ⟨cf13_155, List.forall_mem_cons.mpr ⟨cf13_156, List.forall_mem_cons.mpr ⟨cf13_159, List.forall_mem_cons.mpr ⟨cf13_160, List.forall_mem_cons.mpr ⟨cf13_163, List.forall_mem_cons.mpr ⟨cf13_164, List.forall_mem_cons.mpr ⟨cf13_168, List.forall_mem_cons.mpr ⟨cf13_169, List.forall_mem_cons.mpr ⟨cf13_172, List.forall_mem_cons.mpr ⟨cf13_173, List.forall_mem_cons.mpr ⟨cf13_176, List.forall_mem_cons.mpr ⟨cf13_179, List.forall_mem_cons.mpr ⟨cf13_183, List.forall_mem_cons.mpr ⟨cf13_184, List.forall_mem_cons.mpr ⟨cf13_187, List.forall_mem_cons.mpr ⟨cf13_188, List.forall_mem_cons.mpr ⟨cf13_191, List.forall_mem_cons.mpr ⟨cf13_192, List.forall_mem_cons.mpr ⟨cf13_195, List.forall_mem_cons.mpr ⟨cf13_196, List.forall_mem_cons.mpr ⟨cf13_199, fun _ h => absurd h List.not_mem_nil⟩⟩⟩⟩⟩⟩⟩⟩⟩⟩⟩⟩⟩⟩⟩⟩⟩⟩⟩⟩⟩⟩⟩⟩⟩⟩⟩⟩⟩⟩⟩⟩⟩⟩⟩⟩⟩⟩⟩⟩⟩⟩⟩⟩⟩⟩⟩⟩⟩⟩⟩⟩⟩⟩⟩⟩⟩⟩⟩⟩⟩⟩⟩⟩⟩⟩⟩⟩⟩⟩⟩⟩⟩⟩⟩⟩⟩⟩⟩⟩⟩⟩⟩⟩⟩⟩⟩⟩⟩⟩
theorem kf13_177 : KF 13 177 (.inr (.inl (4294967295))) := Or.inr (Or.inl ⟨(4294967295), rfl, by unfold in64; omega, (tg8 (List.mem_of_getElem? (i := 211) rfl) rfl)⟩)
theorem kfa13 : ∀ q ∈ (tbl 13).2.2.1, KFe 13 q := List.forall_mem_cons.mpr ⟨kf13_177, fun _ h => absurd h List.not_mem_nil⟩
theorem sfa13 : ∀ q ∈ (tbl 13).2.2.2.2.2, SFe 13 q := fun _ h => absurd h List.not_mem_nil
theorem cf14_335 : CF 14 335 0 1 mJ0_coder_7d493 := Or.inr (Or.inr ⟨mfJ0_coder_7d493, Or.inl ⟨rfl, (tg2 (List.mem_of_getElem? (i := 146) rfl) rfl), (tg2 (List.mem_of_getElem? (i := 147) rfl) rfl), (tg2 (List.mem_of_getElem? (i := 148) rfl) rfl), pmJ0_coder_7d493, by decide⟩⟩)
theorem cf14_492 : CF 14 492 0 1 mJ0_isLatin1_aae02 := Or.inr (Or.inr ⟨mfJ0_isLatin1_aae02, Or.inl ⟨rfl, (tg2 (List.mem_of_getElem? (i := 136) rfl) rfl), (tg2 (List.mem_of_getElem? (i := 137) rfl) rfl), (tg2 (List.mem_of_getElem? (i := 138) rfl) rfl), pmJ0_isLatin1_aae02, by decide⟩⟩)
theorem cf14_495 : CF 14 495 4 2 mJ1_charAt_3b067 := Or.inr (Or.inr ⟨mfJ1_charAt_3b067, Or.inr (Or.inr (Or.inr (Or.inr (Or.inl ⟨rfl, (tg2 (List.mem_of_getElem? (i := 228) rfl) rfl), (tg2 (List.mem_of_getElem? (i := 229) rfl) rfl), pmJ1_charAt_3b067⟩))))⟩)
theorem cf14_505 : CF 14 505 0 1 mJ0_length_8abf5 := Or.inr (Or.inr ⟨mfJ0_length_8abf5, Or.inl ⟨rfl, (tg2 (List.mem_of_getElem? (i := 142) rfl) rfl), (tg2 (List.mem_of_getElem? (i := 143) rfl) rfl), (tg2 (List.mem_of_getElem? (i := 144) rfl) rfl), pmJ0_length_8abf5, by decide⟩⟩)
theorem cf14_633 : CF 14 633 0 3 mJ0_indexOf_7cf53 := Or.inr (Or.inr ⟨mfJ0_indexOf_7cf53, Or.inl ⟨rfl, (tg2 (List.mem_of_getElem? (i := 132) rfl) rfl), (tg2 (List.mem_of_getElem? (i := 133) rfl) rfl), (tg2 (List.mem_of_getElem? (i := 134) rfl) rfl), pmJ0_indexOf_7cf53, by decide⟩⟩)
theorem cf14_637 : CF 14 637 4 4 mJ1_indexOf_4cfef := Or.inr (Or.inr ⟨mfJ1_indexOf_4cfef, Or.inr (Or.inr (Or.inr (Or.inr (Or.inl ⟨rfl, (tg2 (List.mem_of_getElem? (i := 150) rfl) rfl), (tg2 (List.mem_of_getElem? (i := 151) rfl) rfl), pmJ1_indexOf_4cfef⟩))))⟩)
theorem cf14_1059 : CF 14 1059 4 3 mJ3_checkIndex_8e157 := Or.inr (Or.inr ⟨mfJ3_checkIndex_8e157, Or.inr (Or.inr (Or.inr (Or.inr (Or.inl ⟨rfl, (tg2 (List.mem_of_getElem? (i := 234) rfl) rfl), (tg2 (List.mem_of_getElem? (i := 235) rfl) rfl), pmJ3_checkIndex_8e157⟩))))⟩)
theorem cf14_1062 : CF 14 1062 4 4 mJ3_checkFromToIndex_8c36e := Or.inr (Or.inr ⟨mfJ3_checkFromToIndex_8c36e, Or.inr (Or.inr (Or.inr (Or.inr (Or.inl ⟨rfl, (tg2 (List.mem_of_getElem? (i := 185) rfl) rfl), (tg2 (List.mem_of_getElem? (i := 186) rfl) rfl), pmJ3_checkFromToIndex_8c36e⟩))))⟩)
theorem cfa14 : ∀ q ∈ (tbl 14).2.1, CFe 14 q := List.forall_mem_cons.mpr ⟨cf14_335, List.forall_mem_cons.mpr ⟨cf14_492, List.forall_mem_cons.mpr ⟨cf14_495, List.forall_mem_cons.mpr ⟨cf14_505, List.forall_mem_cons.mpr ⟨cf14_633, List.forall_mem_cons.mpr ⟨cf14_637, List.forall_mem_cons.mpr ⟨cf14_1059, List.forall_mem_cons.mpr ⟨cf14_1062, fun _ h => absurd h List.not_mem_nil⟩⟩⟩⟩⟩⟩⟩⟩
theorem kfa14 : ∀ q ∈ (tbl 14).2.2.1, KFe 14 q := fun _ h => absurd h List.not_mem_nil
theorem sfa14 : ∀ q ∈ (tbl 14).2.2.2.2.2, SFe 14 q := List.forall_mem_cons.mpr ⟨Or.inr (Or.inl ⟨rfl, (tg2 (List.mem_of_getElem? (i := 140) rfl) rfl)⟩), List.forall_mem_cons.mpr ⟨Or.inr (Or.inr ⟨rfl, (tg2 (List.mem_of_getElem? (i := 183) rfl) rfl)⟩), fun _ h => absurd h List.not_mem_nil⟩⟩
theorem cf15_9 : CF 15 9 4 2 mJ0_checkIndex_df160 := Or.inr (Or.inr ⟨mfJ0_checkIndex_df160, Or.inr (Or.inr (Or.inr (Or.inr (Or.inl ⟨rfl, (tg2 (List.mem_of_getElem? (i := 231) rfl) rfl), (tg2 (List.mem_of_getElem? (i := 232) rfl) rfl), pmJ0_checkIndex_df160⟩))))⟩)
theorem cf15_38 : CF 15 38 4 2 mJ9_min_7cf53 := Or.inr (Or.inr ⟨mfJ9_min_7cf53, Or.inr (Or.inr (Or.inr (Or.inr (Or.inl ⟨rfl, (tg2 (List.mem_of_getElem? (i := 159) rfl) rfl), (tg2 (List.mem_of_getElem? (i := 160) rfl) rfl), pmJ9_min_7cf53⟩))))⟩)
theorem cf15_88 : CF 15 88 4 1 mJ1_canEncode_9a6ad := Or.inr (Or.inr ⟨mfJ1_canEncode_9a6ad, Or.inr (Or.inr (Or.inr (Or.inr (Or.inl ⟨rfl, (tg2 (List.mem_of_getElem? (i := 153) rfl) rfl), (tg2 (List.mem_of_getElem? (i := 154) rfl) rfl), pmJ1_canEncode_9a6ad⟩))))⟩)
theorem cf15_92 : CF 15 92 4 2 mJ9_max_7cf53 := Or.inr (Or.inr ⟨mfJ9_max_7cf53, Or.inr (Or.inr (Or.inr (Or.inr (Or.inl ⟨rfl, (tg2 (List.mem_of_getElem? (i := 156) rfl) rfl), (tg2 (List.mem_of_getElem? (i := 157) rfl) rfl), pmJ9_max_7cf53⟩))))⟩)
theorem cf15_95 : CF 15 95 4 4 mJ1_indexOfChar_4cfef := Or.inr (Or.inr ⟨mfJ1_indexOfChar_4cfef, Or.inr (Or.inr (Or.inr (Or.inr (Or.inl ⟨rfl, (tg2 (List.mem_of_getElem? (i := 162) rfl) rfl), (tg2 (List.mem_of_getElem? (i := 163) rfl) rfl), pmJ1_indexOfChar_4cfef⟩))))⟩)
theorem cfa15 : ∀ q ∈ (tbl 15).2.1, CFe 15 q := List.forall_mem_cons.mpr ⟨cf15_9, List.forall_mem_cons.mpr ⟨cf15_38, List.forall_mem_cons.mpr ⟨cf15_88, List.forall_mem_cons.mpr ⟨cf15_92, List.forall_mem_cons.mpr ⟨cf15_95, fun _ h => absurd h List.not_mem_nil⟩⟩⟩⟩⟩
theorem kfa15 : ∀ q ∈ (tbl 15).2.2.1, KFe 15 q := fun _ h => absurd h List.not_mem_nil
theorem sfa15 : ∀ q ∈ (tbl 15).2.2.2.2.2, SFe 15 q := fun _ h => absurd h List.not_mem_nil
theorem cfa16 : ∀ q ∈ (tbl 16).2.1, CFe 16 q := fun _ h => absurd h List.not_mem_nil
theorem kf16_265 : KF 16 265 (.inl (1431655765)) := Or.inl ⟨1431655765, rfl, by unfold in32; omega, (tg3 (List.mem_of_getElem? (i := 159) rfl) rfl)⟩
theorem kf16_266 : KF 16 266 (.inl (858993459)) := Or.inl ⟨858993459, rfl, by unfold in32; omega, (tg3 (List.mem_of_getElem? (i := 160) rfl) rfl)⟩
theorem kf16_267 : KF 16 267 (.inl (252645135)) := Or.inl ⟨252645135, rfl, by unfold in32; omega, (tg3 (List.mem_of_getElem? (i := 161) rfl) rfl)⟩
theorem kfa16 : ∀ q ∈ (tbl 16).2.2.1, KFe 16 q := List.forall_mem_cons.mpr ⟨kf16_265, List.forall_mem_cons.mpr ⟨kf16_266, List.forall_mem_cons.mpr ⟨kf16_267, fun _ h => absurd h List.not_mem_nil⟩⟩⟩
theorem sfa16 : ∀ q ∈ (tbl 16).2.2.2.2.2, SFe 16 q := fun _ h => absurd h List.not_mem_nil
theorem cfa17 : ∀ q ∈ (tbl 17).2.1, CFe 17 q := fun _ h => absurd h List.not_mem_nil
theorem kf17_314 : KF 17 314 (.inr (.inl (6148914691236517205))) := Or.inr (Or.inl ⟨(6148914691236517205), rfl, by unfold in64; omega, (tg5 (List.mem_of_getElem? (i := 80) rfl) rfl)⟩)
theorem kf17_316 : KF 17 316 (.inr (.inl (3689348814741910323))) := Or.inr (Or.inl ⟨(3689348814741910323), rfl, by unfold in64; omega, (tg5 (List.mem_of_getElem? (i := 81) rfl) rfl)⟩)
theorem kf17_318 : KF 17 318 (.inr (.inl (1085102592571150095))) := Or.inr (Or.inl ⟨(1085102592571150095), rfl, by unfold in64; omega, (tg5 (List.mem_of_getElem? (i := 82) rfl) rfl)⟩)
theorem kfa17 : ∀ q ∈ (tbl 17).2.2.1, KFe 17 q := List.forall_mem_cons.mpr ⟨kf17_314, List.forall_mem_cons.mpr ⟨kf17_316, List.forall_mem_cons.mpr ⟨kf17_318, fun _ h => absurd h List.not_mem_nil⟩⟩⟩
theorem sfa17 : ∀ q ∈ (tbl 17).2.2.2.2.2, SFe 17 q := fun _ h => absurd h List.not_mem_nil
theorem cfa18 : ∀ q ∈ (tbl 18).2.1, CFe 18 q := fun _ h => absurd h List.not_mem_nil
theorem kfa18 : ∀ q ∈ (tbl 18).2.2.1, KFe 18 q := fun _ h => absurd h List.not_mem_nil
theorem sfa18 : ∀ q ∈ (tbl 18).2.2.2.2.2, SFe 18 q := fun _ h => absurd h List.not_mem_nil
theorem cf19_150 : CF 19 150 9 5 mX0_init := Or.inr (Or.inl ⟨rfl, (tg3 (List.mem_of_getElem? (i := 116) rfl) rfl)⟩)
theorem cf19_304 : CF 19 304 4 2 mJ9_min_7cf53 := Or.inr (Or.inr ⟨mfJ9_min_7cf53, Or.inr (Or.inr (Or.inr (Or.inr (Or.inl ⟨rfl, (tg3 (List.mem_of_getElem? (i := 115) rfl) rfl), (tg2 (List.mem_of_getElem? (i := 160) rfl) rfl), pmJ9_min_7cf53⟩))))⟩)
theorem cfa19 : ∀ q ∈ (tbl 19).2.1, CFe 19 q := List.forall_mem_cons.mpr ⟨cf19_150, List.forall_mem_cons.mpr ⟨cf19_304, fun _ h => absurd h List.not_mem_nil⟩⟩
theorem kfa19 : ∀ q ∈ (tbl 19).2.2.1, KFe 19 q := fun _ h => absurd h List.not_mem_nil
theorem sfa19 : ∀ q ∈ (tbl 19).2.2.2.2.2, SFe 19 q := fun _ h => absurd h List.not_mem_nil
theorem cfa20 : ∀ q ∈ (tbl 20).2.1, CFe 20 q := fun _ h => absurd h List.not_mem_nil
theorem kfa20 : ∀ q ∈ (tbl 20).2.2.1, KFe 20 q := fun _ h => absurd h List.not_mem_nil
theorem sfa20 : ∀ q ∈ (tbl 20).2.2.2.2.2, SFe 20 q := fun _ h => absurd h List.not_mem_nil
theorem cfa100 : ∀ q ∈ (tbl 100).2.1, CFe 100 q := List.forall_mem_cons.mpr ⟨cf0_3, List.forall_mem_cons.mpr ⟨cf0_23, List.forall_mem_cons.mpr ⟨cf0_41, List.forall_mem_cons.mpr ⟨cf0_45, List.forall_mem_cons.mpr ⟨cf0_53, List.forall_mem_cons.mpr ⟨cf0_63, List.forall_mem_cons.mpr ⟨cf0_81, List.forall_mem_cons.mpr ⟨cf0_85, List.forall_mem_cons.mpr ⟨cf0_89, fun _ h => absurd h List.not_mem_nil⟩⟩⟩⟩⟩⟩⟩⟩⟩
theorem kf100_93 : KF 100 93 (.inl (-1000000)) := Or.inl ⟨(-1000000), rfl, by unfold in32; omega, (tg3 (List.mem_of_getElem? (i := 177) rfl) rfl)⟩
theorem kf100_94 : KF 100 94 (.inl (1000000)) := Or.inl ⟨1000000, rfl, by unfold in32; omega, (tg3 (List.mem_of_getElem? (i := 178) rfl) rfl)⟩
theorem kfa100 : ∀ q ∈ (tbl 100).2.2.1, KFe 100 q := List.forall_mem_cons.mpr ⟨kf100_93, List.forall_mem_cons.mpr ⟨kf100_94, fun _ h => absurd h List.not_mem_nil⟩⟩
theorem sfa100 : ∀ q ∈ (tbl 100).2.2.2.2.2, SFe 100 q := fun _ h => absurd h List.not_mem_nil
theorem cfa101 : ∀ q ∈ (tbl 101).2.1, CFe 101 q := List.forall_mem_cons.mpr ⟨cf1_3, List.forall_mem_cons.mpr ⟨cf1_52, List.forall_mem_cons.mpr ⟨cf1_56, List.forall_mem_cons.mpr ⟨cf1_60, List.forall_mem_cons.mpr ⟨cf1_67, List.forall_mem_cons.mpr ⟨cf1_71, List.forall_mem_cons.mpr ⟨cf1_75, List.forall_mem_cons.mpr ⟨cf1_81, List.forall_mem_cons.mpr ⟨cf1_86, fun _ h => absurd h List.not_mem_nil⟩⟩⟩⟩⟩⟩⟩⟩⟩
theorem kfa101 : ∀ q ∈ (tbl 101).2.2.1, KFe 101 q := fun _ h => absurd h List.not_mem_nil
theorem sfa101 : ∀ q ∈ (tbl 101).2.2.2.2.2, SFe 101 q := fun _ h => absurd h List.not_mem_nil
theorem cfa102 : ∀ q ∈ (tbl 102).2.1, CFe 102 q := List.forall_mem_cons.mpr ⟨cf2_1, List.forall_mem_cons.mpr ⟨cf2_9, List.forall_mem_cons.mpr ⟨cf2_18, fun _ h => absurd h List.not_mem_nil⟩⟩⟩
theorem kfa102 : ∀ q ∈ (tbl 102).2.2.1, KFe 102 q := fun _ h => absurd h List.not_mem_nil
theorem sfa102 : ∀ q ∈ (tbl 102).2.2.2.2.2, SFe 102 q := fun _ h => absurd h List.not_mem_nil
theorem cfa103 : ∀ q ∈ (tbl 103).2.1, CFe 103 q := List.forall_mem_cons.mpr ⟨cf3_1, List.forall_mem_cons.mpr ⟨cf3_16, fun _ h => absurd h List.not_mem_nil⟩⟩
theorem kfa103 : ∀ q ∈ (tbl 103).2.2.1, KFe 103 q := fun _ h => absurd h List.not_mem_nil
theorem sfa103 : ∀ q ∈ (tbl 103).2.2.2.2.2, SFe 103 q := fun _ h => absurd h List.not_mem_nil
theorem cfa104 : ∀ q ∈ (tbl 104).2.1, CFe 104 q := List.forall_mem_cons.mpr ⟨cf4_3, List.forall_mem_cons.mpr ⟨cf4_17, List.forall_mem_cons.mpr ⟨cf4_22, List.forall_mem_cons.mpr ⟨cf4_29, fun _ h => absurd h List.not_mem_nil⟩⟩⟩⟩
theorem kfa104 : ∀ q ∈ (tbl 104).2.2.1, KFe 104 q := fun _ h => absurd h List.not_mem_nil
theorem sfa104 : ∀ q ∈ (tbl 104).2.2.2.2.2, SFe 104 q := fun _ h => absurd h List.not_mem_nil
theorem cfa105 : ∀ q ∈ (tbl 105).2.1, CFe 105 q := List.forall_mem_cons.mpr ⟨cf5_3, List.forall_mem_cons.mpr ⟨cf5_46, fun _ h => absurd h List.not_mem_nil⟩⟩
theorem kfa105 : ∀ q ∈ (tbl 105).2.2.1, KFe 105 q := fun _ h => absurd h List.not_mem_nil
theorem sfa105 : ∀ q ∈ (tbl 105).2.2.2.2.2, SFe 105 q := List.forall_mem_cons.mpr ⟨Or.inl ⟨rfl, _, (List.mem_of_getElem? (i := 2) rfl)⟩, fun _ h => absurd h List.not_mem_nil⟩
theorem cfa106 : ∀ q ∈ (tbl 106).2.1, CFe 106 q := List.forall_mem_cons.mpr ⟨cf6_3, List.forall_mem_cons.mpr ⟨cf6_21, List.forall_mem_cons.mpr ⟨cf6_42, List.forall_mem_cons.mpr ⟨cf6_47, List.forall_mem_cons.mpr ⟨cf6_51, List.forall_mem_cons.mpr ⟨cf6_58, List.forall_mem_cons.mpr ⟨cf6_66, List.forall_mem_cons.mpr ⟨cf6_70, List.forall_mem_cons.mpr ⟨cf6_75, List.forall_mem_cons.mpr ⟨cf6_84, List.forall_mem_cons.mpr ⟨cf6_94, List.forall_mem_cons.mpr ⟨cf6_98, List.forall_mem_cons.mpr ⟨cf6_113, List.forall_mem_cons.mpr ⟨cf6_139, List.forall_mem_cons.mpr ⟨cf6_150, List.forall_mem_cons.mpr ⟨cf6_153, List.forall_mem_cons.mpr ⟨cf6_159, List.forall_mem_cons.mpr ⟨cf6_162, List.forall_mem_cons.mpr ⟨cf6_166, List.forall_mem_cons.mpr ⟨cf6_170, List.forall_mem_cons.mpr ⟨cf6_173, List.forall_mem_cons.mpr ⟨cf6_180, List.forall_mem_cons.mpr ⟨cf6_185, List.forall_mem_cons.mpr ⟨cf6_188, List.forall_mem_cons.mpr ⟨cf6_196, List.forall_mem_cons.mpr ⟨cf6_201, List.forall_mem_cons.mpr ⟨cf6_208, List.forall_mem_cons.mpr ⟨cf6_220, List.forall_mem_cons.mpr ⟨cf6_224, List.forall_mem_cons.mpr ⟨cf6_228, List.forall_mem_cons.mpr ⟨cf6_232, List.forall_mem_cons.mpr ⟨cf6_235, List.forall_mem_cons.mpr ⟨cf6_238, List.forall_mem_cons.mpr ⟨cf6_241, List.forall_mem_cons.mpr ⟨cf6_246, fun _ h => absurd h List.not_mem_nil⟩⟩⟩⟩⟩⟩⟩⟩⟩⟩⟩⟩⟩⟩⟩⟩⟩⟩⟩⟩⟩⟩⟩⟩⟩⟩⟩⟩⟩⟩⟩⟩⟩⟩⟩
theorem kf106_45 : KF 106 45 (.inr (.inr 2)) := Or.inr (Or.inr ⟨1, _, rfl, by decide, List.mem_of_getElem? (i := 27) rfl⟩)
theorem kf106_64 : KF 106 64 (.inr (.inr 3)) := Or.inr (Or.inr ⟨2, _, rfl, by decide, List.mem_of_getElem? (i := 28) rfl⟩)
theorem kf106_73 : KF 106 73 (.inr (.inr 8)) := Or.inr (Or.inr ⟨7, _, rfl, by decide, List.mem_of_getElem? (i := 33) rfl⟩)
theorem kf106_78 : KF 106 78 (.inr (.inr 12)) := Or.inr (Or.inr ⟨11, _, rfl, by decide, List.mem_of_getElem? (i := 37) rfl⟩)
theorem kf106_90 : KF 106 90 (.inr (.inr 24)) := Or.inr (Or.inr ⟨23, _, rfl, by decide, List.mem_of_getElem? (i := 49) rfl⟩)
theorem kf106_108 : KF 106 108 (.inr (.inr 4)) := Or.inr (Or.inr ⟨3, _, rfl, by decide, List.mem_of_getElem? (i := 29) rfl⟩)
theorem kf106_117 : KF 106 117 (.inr (.inr 5)) := Or.inr (Or.inr ⟨4, _, rfl, by decide, List.mem_of_getElem? (i := 30) rfl⟩)
theorem kf106_121 : KF 106 121 (.inr (.inr 6)) := Or.inr (Or.inr ⟨5, _, rfl, by decide, List.mem_of_getElem? (i := 31) rfl⟩)
theorem kf106_125 : KF 106 125 (.inr (.inr 7)) := Or.inr (Or.inr ⟨6, _, rfl, by decide, List.mem_of_getElem? (i := 32) rfl⟩)
theorem kf106_132 : KF 106 132 (.inr (.inr 9)) := Or.inr (Or.inr ⟨8, _, rfl, by decide, List.mem_of_getElem? (i := 34) rfl⟩)
theorem kf106_142 : KF 106 142 (.inr (.inr 10)) := Or.inr (Or.inr ⟨9, _, rfl, by decide, List.mem_of_getElem? (i := 35) rfl⟩)
theorem kf106_146 : KF 106 146 (.inr (.inr 11)) := Or.inr (Or.inr ⟨10, _, rfl, by decide, List.mem_of_getElem? (i := 36) rfl⟩)
theorem kf106_183 : KF 106 183 (.inr (.inr 17)) := Or.inr (Or.inr ⟨16, _, rfl, by decide, List.mem_of_getElem? (i := 42) rfl⟩)
theorem kf106_191 : KF 106 191 (.inr (.inr 21)) := Or.inr (Or.inr ⟨20, _, rfl, by decide, List.mem_of_getElem? (i := 46) rfl⟩)
theorem kf106_193 : KF 106 193 (.inr (.inr 22)) := Or.inr (Or.inr ⟨21, _, rfl, by decide, List.mem_of_getElem? (i := 47) rfl⟩)
theorem kf106_195 : KF 106 195 (.inr (.inr 23)) := Or.inr (Or.inr ⟨22, _, rfl, by decide, List.mem_of_getElem? (i := 48) rfl⟩)
theorem kf106_199 : KF 106 199 (.inr (.inr 20)) := Or.inr (Or.inr ⟨19, _, rfl, by decide, List.mem_of_getElem? (i := 45) rfl⟩)
theorem kf106_204 : KF 106 204 (.inr (.inr 19)) := Or.inr (Or.inr ⟨18, _, rfl, by decide, List.mem_of_getElem? (i := 44) rfl⟩)
theorem kf106_206 : KF 106 206 (.inr (.inr 18)) := Or.inr (Or.inr ⟨17, _, rfl, by decide, List.mem_of_getElem? (i := 43) rfl⟩)
theorem kf106_211 : KF 106 211 (.inr (.inr 13)) := Or.inr (Or.inr ⟨12, _, rfl, by decide, List.mem_of_getElem? (i := 38) rfl⟩)
theorem kf106_213 : KF 106 213 (.inr (.inr 14)) := Or.inr (Or.inr ⟨13, _, rfl, by decide, List.mem_of_getElem? (i := 39) rfl⟩)
theorem kf106_214 : KF 106 214 (.inr (.inr 15)) := Or.inr (Or.inr ⟨14, _, rfl, by decide, List.mem_of_getElem? (i := 40) rfl⟩)
theorem kf106_215 : KF 106 215 (.inr (.inr 16)) := Or.inr (Or.inr ⟨15, _, rfl, by decide, List.mem_of_getElem? (i := 41) rfl⟩)
theorem kf106_244 : KF 106 244 (.inr (.inr 1)) := Or.inr (Or.inr ⟨0, _, rfl, by decide, List.mem_of_getElem? (i := 26) rfl⟩)
theorem kfa106 : ∀ q ∈ (tbl 106).2.2.1, KFe 106 q := List.forall_mem_cons.mpr ⟨kf106_45, List.forall_mem_cons.mpr ⟨kf106_64, List.forall_mem_cons.mpr ⟨kf106_73, List.forall_mem_cons.mpr ⟨kf106_78, List.forall_mem_cons.mpr ⟨kf106_90, List.forall_mem_cons.mpr ⟨kf106_108, List.forall_mem_cons.mpr ⟨kf106_117, List.forall_mem_cons.mpr ⟨kf106_121, List.forall_mem_cons.mpr ⟨kf106_125, List.forall_mem_cons.mpr ⟨kf106_132, List.forall_mem_cons.mpr ⟨kf106_142, List.forall_mem_cons.mpr ⟨kf106_146, List.forall_mem_cons.mpr ⟨kf106_183, List.forall_mem_cons.mpr ⟨kf106_191, List.forall_mem_cons.mpr ⟨kf106_193, List.forall_mem_cons.mpr ⟨kf106_195, List.forall_mem_cons.mpr ⟨kf106_199, List.forall_mem_cons.mpr ⟨kf106_204, List.forall_mem_cons.mpr ⟨kf106_206, List.forall_mem_cons.mpr ⟨kf106_211, List.forall_mem_cons.mpr ⟨kf106_213, List.forall_mem_cons.mpr ⟨kf106_214, List.forall_mem_cons.mpr ⟨kf106_215, List.forall_mem_cons.mpr ⟨kf106_244, fun _ h => absurd h List.not_mem_nil⟩⟩⟩⟩⟩⟩⟩⟩⟩⟩⟩⟩⟩⟩⟩⟩⟩⟩⟩⟩⟩⟩⟩⟩
theorem sfa106 : ∀ q ∈ (tbl 106).2.2.2.2.2, SFe 106 q := fun _ h => absurd h List.not_mem_nil
theorem cfa107 : ∀ q ∈ (tbl 107).2.1, CFe 107 q := List.forall_mem_cons.mpr ⟨cf7_5, List.forall_mem_cons.mpr ⟨cf7_13, List.forall_mem_cons.mpr ⟨cf7_56, List.forall_mem_cons.mpr ⟨cf7_77, List.forall_mem_cons.mpr ⟨cf7_81, List.forall_mem_cons.mpr ⟨cf7_89, List.forall_mem_cons.mpr ⟨cf7_93, List.forall_mem_cons.mpr ⟨cf7_97, List.forall_mem_cons.mpr ⟨cf7_101, List.forall_mem_cons.mpr ⟨cf7_104, List.forall_mem_cons.mpr ⟨cf7_108, List.forall_mem_cons.mpr ⟨cf7_111, List.forall_mem_cons.mpr ⟨cf7_121, List.forall_mem_cons.mpr ⟨cf7_124, List.forall_mem_cons.mpr ⟨cf7_127, fun _ h => absurd h List.not_mem_nil⟩⟩⟩⟩⟩⟩⟩⟩⟩⟩⟩⟩⟩⟩⟩
theorem kf107_18 : KF 107 18 (.inl (38400)) := Or.inl ⟨38400, rfl, by unfold in32; omega, (tg4 (List.mem_of_getElem? (i := 75) rfl) rfl)⟩
theorem kf107_85 : KF 107 85 (.inl (100000)) := Or.inl ⟨100000, rfl, by unfold in32; omega, (tg4 (List.mem_of_getElem? (i := 133) rfl) rfl)⟩
theorem kfa107 : ∀ q ∈ (tbl 107).2.2.1, KFe 107 q := List.forall_mem_cons.mpr ⟨kf107_18, List.forall_mem_cons.mpr ⟨kf107_85, fun _ h => absurd h List.not_mem_nil⟩⟩
theorem sfa107 : ∀ q ∈ (tbl 107).2.2.2.2.2, SFe 107 q := fun _ h => absurd h List.not_mem_nil
theorem cfa108 : ∀ q ∈ (tbl 108).2.1, CFe 108 q := List.forall_mem_cons.mpr ⟨cf8_3, List.forall_mem_cons.mpr ⟨cf8_32, fun _ h => absurd h List.not_mem_nil⟩⟩
theorem kfa108 : ∀ q ∈ (tbl 108).2.2.1, KFe 108 q := fun _ h => absurd h List.not_mem_nil
theorem sfa108 : ∀ q ∈ (tbl 108).2.2.2.2.2, SFe 108 q := fun _ h => absurd h List.not_mem_nil
theorem cfa109 : ∀ q ∈ (tbl 109).2.1, CFe 109 q := List.forall_mem_cons.mpr ⟨cf9_3, List.forall_mem_cons.mpr ⟨cf9_35, List.forall_mem_cons.mpr ⟨cf9_41, List.forall_mem_cons.mpr ⟨cf9_53, List.forall_mem_cons.mpr ⟨cf9_59, List.forall_mem_cons.mpr ⟨cf9_72, List.forall_mem_cons.mpr ⟨cf9_78, List.forall_mem_cons.mpr ⟨cf9_82, List.forall_mem_cons.mpr ⟨cf9_87, List.forall_mem_cons.mpr ⟨cf9_94, List.forall_mem_cons.mpr ⟨cf9_98, List.forall_mem_cons.mpr ⟨cf9_102, List.forall_mem_cons.mpr ⟨cf9_105, List.forall_mem_cons.mpr ⟨cf9_108, List.forall_mem_cons.mpr ⟨cf9_111, List.forall_mem_cons.mpr ⟨cf9_115, fun _ h => absurd h List.not_mem_nil⟩⟩⟩⟩⟩⟩⟩⟩⟩⟩⟩⟩⟩⟩⟩⟩
theorem kfa109 : ∀ q ∈ (tbl 109).2.2.1, KFe 109 q := fun _ h => absurd h List.not_mem_nil
theorem sfa109 : ∀ q ∈ (tbl 109).2.2.2.2.2, SFe 109 q := fun _ h => absurd h List.not_mem_nil
theorem cfa110 : ∀ q ∈ (tbl 110).2.1, CFe 110 q := List.forall_mem_cons.mpr ⟨cf10_3, List.forall_mem_cons.mpr ⟨cf10_26, fun _ h => absurd h List.not_mem_nil⟩⟩
theorem kfa110 : ∀ q ∈ (tbl 110).2.2.1, KFe 110 q := fun _ h => absurd h List.not_mem_nil
theorem sfa110 : ∀ q ∈ (tbl 110).2.2.2.2.2, SFe 110 q := fun _ h => absurd h List.not_mem_nil
theorem cfa111 : ∀ q ∈ (tbl 111).2.1, CFe 111 q := List.forall_mem_cons.mpr ⟨cf11_3, List.forall_mem_cons.mpr ⟨cf11_11, List.forall_mem_cons.mpr ⟨cf11_18, List.forall_mem_cons.mpr ⟨cf11_25, List.forall_mem_cons.mpr ⟨cf11_35, List.forall_mem_cons.mpr ⟨cf11_42, List.forall_mem_cons.mpr ⟨cf11_49, List.forall_mem_cons.mpr ⟨cf11_56, List.forall_mem_cons.mpr ⟨cf11_65, List.forall_mem_cons.mpr ⟨cf11_69, List.forall_mem_cons.mpr ⟨cf11_76, List.forall_mem_cons.mpr ⟨cf11_80, List.forall_mem_cons.mpr ⟨cf11_89, List.forall_mem_cons.mpr ⟨cf11_106, List.forall_mem_cons.mpr ⟨cf11_110, List.forall_mem_cons.mpr ⟨cf11_116, List.forall_mem_cons.mpr ⟨cf11_139, List.forall_mem_cons.mpr ⟨cf11_143, List.forall_mem_cons.mpr ⟨cf11_147, List.forall_mem_cons.mpr ⟨cf11_150, List.forall_mem_cons.mpr ⟨cf11_154, List.forall_mem_cons.mpr ⟨cf11_157, List.forall_mem_cons.mpr ⟨cf11_163, List.forall_mem_cons.mpr ⟨cf11_169, List.forall_mem_cons.mpr ⟨cf11_173, List.forall_mem_cons.mpr ⟨cf11_180, List.forall_mem_cons.mpr ⟨cf11_183, List.forall_mem_cons.mpr ⟨cf11_192, List.forall_mem_cons.mpr ⟨cf11_196, List.forall_mem_cons.mpr ⟨cf11_199, List.forall_mem_cons.mpr ⟨cf11_202, List.forall_mem_cons.mpr ⟨cf11_206, List.forall_mem_cons.mpr ⟨cf11_210, List.forall_mem_cons.mpr ⟨cf11_215, List.forall_mem_cons.mpr ⟨cf11_218, List.forall_mem_cons.mpr ⟨cf11_221, List.forall_mem_cons.mpr ⟨cf11_224, List.forall_mem_cons.mpr ⟨cf11_231, List.forall_mem_cons.mpr ⟨cf11_235, List.forall_mem_cons.mpr ⟨cf11_240, List.forall_mem_cons.mpr ⟨cf11_243, List.forall_mem_cons.mpr ⟨cf11_247, List.forall_mem_cons.mpr ⟨cf11_251, List.forall_mem_cons.mpr ⟨cf11_255, List.forall_mem_cons.mpr ⟨cf11_262, List.forall_mem_cons.mpr ⟨cf11_265, List.forall_mem_cons.mpr ⟨cf11_270, List.forall_mem_cons.mpr ⟨cf11_275, List.forall_mem_cons.mpr ⟨cf11_276, List.forall_mem_cons.mpr ⟨cf11_277, List.forall_mem_cons.mpr ⟨cf11_279, List.forall_mem_cons.mpr ⟨cf11_282, List.forall_mem_cons.mpr ⟨cf11_286, List.forall_mem_cons.mpr ⟨cf11_290, List.forall_mem_cons.mpr ⟨cf11_293, List.forall_mem_cons.mpr ⟨cf11_296, List.forall_mem_cons.mpr ⟨cf11_299, List.forall_mem_cons.mpr ⟨cf11_302, List.forall_mem_cons.mpr ⟨cf11_306, List.forall_mem_cons.mpr ⟨cf11_310, List.forall_mem_cons.mpr ⟨cf11_314, List.forall_mem_cons.mpr ⟨cf11_319, List.forall_mem_cons.mpr ⟨cf11_323, List.forall_mem_cons.mpr ⟨cf11_326, List.forall_mem_cons.mpr ⟨cf11_332, List.forall_mem_cons.mpr ⟨cf11_339, List.forall_mem_cons.mpr ⟨cf11_350, List.forall_mem_cons.mpr ⟨cf11_353, List.forall_mem_cons.mpr ⟨cf11_364, List.forall_mem_cons.mpr ⟨cf11_367, List.forall_mem_cons.mpr ⟨cf11_370, List.forall_mem_cons.mpr ⟨cf11_377, List.forall_mem_cons.mpr ⟨cf11_384, List.forall_mem_cons.mpr ⟨cf11_385, fun _ h => absurd h List.not_mem_nil⟩⟩⟩⟩⟩⟩⟩⟩⟩⟩⟩⟩⟩⟩⟩⟩⟩⟩⟩⟩⟩⟩⟩⟩⟩⟩⟩⟩⟩⟩⟩⟩⟩⟩⟩⟩⟩⟩⟩⟩⟩⟩⟩⟩⟩⟩⟩⟩⟩⟩⟩⟩⟩⟩⟩⟩⟩⟩⟩⟩⟩⟩⟩⟩⟩⟩⟩⟩⟩⟩⟩⟩⟩⟩
theorem kf111_227 : KF 111 227 (.inr (.inl (-2))) := Or.inr (Or.inl ⟨(-2), rfl, by unfold in64; omega, (tg4 (List.mem_of_getElem? (i := 198) rfl) rfl)⟩)
theorem kf111_229 : KF 111 229 (.inr (.inl (-3))) := Or.inr (Or.inl ⟨(-3), rfl, by unfold in64; omega, (tg4 (List.mem_of_getElem? (i := 199) rfl) rfl)⟩)
theorem kf111_330 : KF 111 330 (.inr (.inl (-1))) := Or.inr (Or.inl ⟨(-1), rfl, by unfold in64; omega, (tg5 (List.mem_of_getElem? (i := 99) rfl) rfl)⟩)
theorem kf111_335 : KF 111 335 (.inr (.inl (-6))) := Or.inr (Or.inl ⟨(-6), rfl, by unfold in64; omega, (tg6 (List.mem_of_getElem? (i := 36) rfl) rfl)⟩)
theorem kf111_337 : KF 111 337 (.inr (.inl (-7))) := Or.inr (Or.inl ⟨(-7), rfl, by unfold in64; omega, (tg6 (List.mem_of_getElem? (i := 37) rfl) rfl)⟩)
theorem kf111_356 : KF 111 356 (.inr (.inl (99))) := Or.inr (Or.inl ⟨(99), rfl, by unfold in64; omega, (tg5 (List.mem_of_getElem? (i := 100) rfl) rfl)⟩)
theorem kf111_358 : KF 111 358 (.inr (.inl (3099))) := Or.inr (Or.inl ⟨(3099), rfl, by unfold in64; omega, (tg4 (List.mem_of_getElem? (i := 27) rfl) rfl)⟩)
theorem kf111_386 : KF 111 386 (.inl (1103515245)) := Or.inl ⟨1103515245, rfl, by unfold in32; omega, (tg4 (List.mem_of_getElem? (i := 39) rfl) rfl)⟩
theorem kfa111 : ∀ q ∈ (tbl 111).2.2.1, KFe 111 q := List.forall_mem_cons.mpr ⟨kf111_227, List.forall_mem_cons.mpr ⟨kf111_229, List.forall_mem_cons.mpr ⟨kf111_330, List.forall_mem_cons.mpr ⟨kf111_335, List.forall_mem_cons.mpr ⟨kf111_337, List.forall_mem_cons.mpr ⟨kf111_356, List.forall_mem_cons.mpr ⟨kf111_358, List.forall_mem_cons.mpr ⟨kf111_386, fun _ h => absurd h List.not_mem_nil⟩⟩⟩⟩⟩⟩⟩⟩
theorem sfa111 : ∀ q ∈ (tbl 111).2.2.2.2.2, SFe 111 q := fun _ h => absurd h List.not_mem_nil
theorem cfa112 : ∀ q ∈ (tbl 112).2.1, CFe 112 q := List.forall_mem_cons.mpr ⟨cf12_7, List.forall_mem_cons.mpr ⟨cf12_78, List.forall_mem_cons.mpr ⟨cf12_90, List.forall_mem_cons.mpr ⟨cf12_96, List.forall_mem_cons.mpr ⟨cf12_106, List.forall_mem_cons.mpr ⟨cf12_113, List.forall_mem_cons.mpr ⟨cf12_117, List.forall_mem_cons.mpr ⟨cf12_120, List.forall_mem_cons.mpr ⟨cf12_134, List.forall_mem_cons.mpr ⟨cf12_137, List.forall_mem_cons.mpr ⟨cf12_140, List.forall_mem_cons.mpr ⟨cf12_144, List.forall_mem_cons.mpr ⟨cf12_151, List.forall_mem_cons.mpr ⟨cf12_154, List.forall_mem_cons.mpr ⟨cf12_157, List.forall_mem_cons.mpr ⟨cf12_160, List.forall_mem_cons.mpr ⟨cf12_163, List.forall_mem_cons.mpr ⟨cf12_166, List.forall_mem_cons.mpr ⟨cf12_169, List.forall_mem_cons.mpr ⟨cf12_172, List.forall_mem_cons.mpr ⟨cf12_175, List.forall_mem_cons.mpr ⟨cf12_178, List.forall_mem_cons.mpr ⟨cf12_181, List.forall_mem_cons.mpr ⟨cf12_184, List.forall_mem_cons.mpr ⟨cf12_188, List.forall_mem_cons.mpr ⟨cf12_191, List.forall_mem_cons.mpr ⟨cf12_194, List.forall_mem_cons.mpr ⟨cf12_197, List.forall_mem_cons.mpr ⟨cf12_200, List.forall_mem_cons.mpr ⟨cf12_203, List.forall_mem_cons.mpr ⟨cf12_213, List.forall_mem_cons.mpr ⟨cf12_217, List.forall_mem_cons.mpr ⟨cf12_220, List.forall_mem_cons.mpr ⟨cf12_226, List.forall_mem_cons.mpr ⟨cf12_236, List.forall_mem_cons.mpr ⟨cf12_240, List.forall_mem_cons.mpr ⟨cf12_244, List.forall_mem_cons.mpr ⟨cf12_247, List.forall_mem_cons.mpr ⟨cf12_250, List.forall_mem_cons.mpr ⟨cf12_255, List.forall_mem_cons.mpr ⟨cf12_258, List.forall_mem_cons.mpr ⟨cf12_261, List.forall_mem_cons.mpr ⟨cf12_265, List.forall_mem_cons.mpr ⟨cf12_269, List.forall_mem_cons.mpr ⟨cf12_294, List.forall_mem_cons.mpr ⟨cf12_297, List.forall_mem_cons.mpr ⟨cf12_302, List.forall_mem_cons.mpr ⟨cf12_305, List.forall_mem_cons.mpr ⟨cf12_308, List.forall_mem_cons.mpr ⟨cf12_315, List.forall_mem_cons.mpr ⟨cf12_320, List.forall_mem_cons.mpr ⟨cf12_323, List.forall_mem_cons.mpr ⟨cf12_327, List.forall_mem_cons.mpr ⟨cf12_333, List.forall_mem_cons.mpr ⟨cf12_336, List.forall_mem_cons.mpr ⟨cf12_340, List.forall_mem_cons.mpr ⟨cf12_343, List.forall_mem_cons.mpr ⟨cf12_346, List.forall_mem_cons.mpr ⟨cf12_349, List.forall_mem_cons.mpr ⟨cf12_352, List.forall_mem_cons.mpr ⟨cf12_361, List.forall_mem_cons.mpr ⟨cf12_364, List.forall_mem_cons.mpr ⟨cf12_367, List.forall_mem_cons.mpr ⟨cf12_371, List.forall_mem_cons.mpr ⟨cf12_375, List.forall_mem_cons.mpr ⟨cf12_380, List.forall_mem_cons.mpr ⟨cf12_384, List.forall_mem_cons.mpr ⟨cf12_388, List.forall_mem_cons.mpr ⟨cf12_391, List.forall_mem_cons.mpr ⟨cf12_397, List.forall_mem_cons.mpr ⟨cf12_400, List.forall_mem_cons.mpr ⟨cf12_403, List.forall_mem_cons.mpr ⟨cf12_406, List.forall_mem_cons.mpr ⟨cf12_409, List.forall_mem_cons.mpr ⟨cf12_412, List.forall_mem_cons.mpr ⟨cf12_415, List.forall_mem_cons.mpr ⟨cf12_418, List.forall_mem_cons.mpr ⟨cf12_421, List.forall_mem_cons.mpr ⟨cf12_427, List.forall_mem_cons.mpr ⟨cf12_432, List.forall_mem_cons.mpr ⟨cf12_436, fun _ h => absurd h List.not_mem_nil⟩⟩⟩⟩⟩⟩⟩⟩⟩⟩⟩⟩⟩⟩⟩⟩⟩⟩⟩⟩⟩⟩⟩⟩⟩⟩⟩⟩⟩⟩⟩⟩⟩⟩⟩⟩⟩⟩⟩⟩⟩⟩⟩⟩⟩⟩⟩⟩⟩⟩⟩⟩⟩⟩⟩⟩⟩⟩⟩⟩⟩⟩⟩⟩⟩⟩⟩⟩⟩⟩⟩⟩⟩⟩⟩⟩⟩⟩⟩⟩⟩
theorem kf112_45 : KF 112 45 (.inl (38400)) := Or.inl ⟨38400, rfl, by unfold in32; omega, (tg6 (List.mem_of_getElem? (i := 70) rfl) rfl)⟩
theorem kf112_62 : KF 112 62 (.inl (83200)) := Or.inl ⟨83200, rfl, by unfold in32; omega, (tg6 (List.mem_of_getElem? (i := 71) rfl) rfl)⟩
theorem kf112_88 : KF 112 88 (.inr (.inr 25)) := Or.inr (Or.inr ⟨24, _, rfl, by decide, List.mem_of_getElem? (i := 50) rfl⟩)
theorem kf112_126 : KF 112 126 (.inr (.inr 26)) := Or.inr (Or.inr ⟨25, _, rfl, by decide, List.mem_of_getElem? (i := 51) rfl⟩)
theorem kf112_209 : KF 112 209 (.inr (.inl (1000000))) := Or.inr (Or.inl ⟨(1000000), rfl, by unfold in64; omega, (tg7 (List.mem_of_getElem? (i := 102) rfl) rfl)⟩)
theorem kf112_211 : KF 112 211 (.inr (.inl (-1000000))) := Or.inr (Or.inl ⟨(-1000000), rfl, by unfold in64; omega, (tg7 (List.mem_of_getElem? (i := 103) rfl) rfl)⟩)
theorem kf112_253 : KF 112 253 (.inr (.inl (99))) := Or.inr (Or.inl ⟨(99), rfl, by unfold in64; omega, (tg7 (List.mem_of_getElem? (i := 139) rfl) rfl)⟩)
theorem kf112_273 : KF 112 273 (.inr (.inl (9))) := Or.inr (Or.inl ⟨(9), rfl, by unfold in64; omega, (tg7 (List.mem_of_getElem? (i := 160) rfl) rfl)⟩)
theorem kf112_275 : KF 112 275 (.inr (.inl (10))) := Or.inr (Or.inl ⟨(10), rfl, by unfold in64; omega, (tg7 (List.mem_of_getElem? (i := 165) rfl) rfl)⟩)
theorem kf112_277 : KF 112 277 (.inr (.inl (1000))) := Or.inr (Or.inl ⟨(1000), rfl, by unfold in64; omega, (tg7 (List.mem_of_getElem? (i := 183) rfl) rfl)⟩)
theorem kf112_279 : KF 112 279 (.inr (.inl (1999))) := Or.inr (Or.inl ⟨(1999), rfl, by unfold in64; omega, (tg7 (List.mem_of_getElem? (i := 184) rfl) rfl)⟩)
theorem kf112_281 : KF 112 281 (.inr (.inl (100))) := Or.inr (Or.inl ⟨(100), rfl, by unfold in64; omega, (tg7 (List.mem_of_getElem? (i := 185) rfl) rfl)⟩)
theorem kf112_283 : KF 112 283 (.inr (.inl (2000))) := Or.inr (Or.inl ⟨(2000), rfl, by unfold in64; omega, (tg7 (List.mem_of_getElem? (i := 186) rfl) rfl)⟩)
theorem kf112_285 : KF 112 285 (.inr (.inl (2009))) := Or.inr (Or.inl ⟨(2009), rfl, by unfold in64; omega, (tg7 (List.mem_of_getElem? (i := 187) rfl) rfl)⟩)
theorem kf112_287 : KF 112 287 (.inr (.inl (3000))) := Or.inr (Or.inl ⟨(3000), rfl, by unfold in64; omega, (tg7 (List.mem_of_getElem? (i := 188) rfl) rfl)⟩)
theorem kf112_289 : KF 112 289 (.inr (.inl (3099))) := Or.inr (Or.inl ⟨(3099), rfl, by unfold in64; omega, (tg7 (List.mem_of_getElem? (i := 189) rfl) rfl)⟩)
theorem kf112_300 : KF 112 300 (.inr (.inl (3))) := Or.inr (Or.inl ⟨(3), rfl, by unfold in64; omega, (tg7 (List.mem_of_getElem? (i := 170) rfl) rfl)⟩)
theorem kf112_311 : KF 112 311 (.inl (1103515245)) := Or.inl ⟨1103515245, rfl, by unfold in32; omega, (tg7 (List.mem_of_getElem? (i := 215) rfl) rfl)⟩
theorem kf112_318 : KF 112 318 (.inr (.inl (40))) := Or.inr (Or.inl ⟨(40), rfl, by unfold in64; omega, (tg7 (List.mem_of_getElem? (i := 206) rfl) rfl)⟩)
theorem kf112_326 : KF 112 326 (.inl (268435456)) := Or.inl ⟨268435456, rfl, by unfold in32; omega, (tg7 (List.mem_of_getElem? (i := 236) rfl) rfl)⟩
theorem kf112_355 : KF 112 355 (.inr (.inl (-2))) := Or.inr (Or.inl ⟨(-2), rfl, by unfold in64; omega, (tg8 (List.mem_of_getElem? (i := 31) rfl) rfl)⟩)
theorem kf112_357 : KF 112 357 (.inr (.inl (12))) := Or.inr (Or.inl ⟨(12), rfl, by unfold in64; omega, (tg8 (List.mem_of_getElem? (i := 32) rfl) rfl)⟩)
theorem kf112_359 : KF 112 359 (.inr (.inl (-3))) := Or.inr (Or.inl ⟨(-3), rfl, by unfold in64; omega, (tg8 (List.mem_of_getElem? (i := 33) rfl) rfl)⟩)
theorem kf112_378 : KF 112 378 (.inr (.inl (-1))) := Or.inr (Or.inl ⟨(-1), rfl, by unfold in64; omega, (tg8 (List.mem_of_getElem? (i := 90) rfl) rfl)⟩)
theorem kf112_425 : KF 112 425 (.inr (.inl (6))) := Or.inr (Or.inl ⟨(6), rfl, by unfold in64; omega, (tg8 (List.mem_of_getElem? (i := 163) rfl) rfl)⟩)
theorem kf112_430 : KF 112 430 (.inr (.inl (-7))) := Or.inr (Or.inl ⟨(-7), rfl, by unfold in64; omega, (tg8 (List.mem_of_getElem? (i := 187) rfl) rfl)⟩)
theorem kfa112 : ∀ q ∈ (tbl 112).2.2.1, KFe 112 q := List.forall_mem_cons.mpr ⟨kf112_45, List.forall_mem_cons.mpr ⟨kf112_62, List.forall_mem_cons.mpr ⟨kf112_88, List.forall_mem_cons.mpr ⟨kf112_126, List.forall_mem_cons.mpr ⟨kf112_209, List.forall_mem_cons.mpr ⟨kf112_211, List.forall_mem_cons.mpr ⟨kf112_253, List.forall_mem_cons.mpr ⟨kf112_273, List.forall_mem_cons.mpr ⟨kf112_275, List.forall_mem_cons.mpr ⟨kf112_277, List.forall_mem_cons.mpr ⟨kf112_279, List.forall_mem_cons.mpr ⟨kf112_281, List.forall_mem_cons.mpr ⟨kf112_283, List.forall_mem_cons.mpr ⟨kf112_285, List.forall_mem_cons.mpr ⟨kf112_287, List.forall_mem_cons.mpr ⟨kf112_289, List.forall_mem_cons.mpr ⟨kf112_300, List.forall_mem_cons.mpr ⟨kf112_311, List.forall_mem_cons.mpr ⟨kf112_318, List.forall_mem_cons.mpr ⟨kf112_326, List.forall_mem_cons.mpr ⟨kf112_355, List.forall_mem_cons.mpr ⟨kf112_357, List.forall_mem_cons.mpr ⟨kf112_359, List.forall_mem_cons.mpr ⟨kf112_378, List.forall_mem_cons.mpr ⟨kf112_425, List.forall_mem_cons.mpr ⟨kf112_430, fun _ h => absurd h List.not_mem_nil⟩⟩⟩⟩⟩⟩⟩⟩⟩⟩⟩⟩⟩⟩⟩⟩⟩⟩⟩⟩⟩⟩⟩⟩⟩⟩
theorem sfa112 : ∀ q ∈ (tbl 112).2.2.2.2.2, SFe 112 q := fun _ h => absurd h List.not_mem_nil
theorem cal_ok {own idx : Nat} {e : Nat × Nat × Me} (h : lk (tbl own).2.1 idx = some e) : CF own idx e.1 e.2.1 e.2.2 := by
  have hm := lk_mem h
  unfold tbl at hm
  split at hm
  · exact cfa0 _ hm
  · exact cfa1 _ hm
  · exact cfa2 _ hm
  · exact cfa3 _ hm
  · exact cfa4 _ hm
  · exact cfa5 _ hm
  · exact cfa6 _ hm
  · exact cfa7 _ hm
  · exact cfa8 _ hm
  · exact cfa9 _ hm
  · exact cfa10 _ hm
  · exact cfa11 _ hm
  · exact cfa12 _ hm
  · exact cfa13 _ hm
  · exact cfa14 _ hm
  · exact cfa15 _ hm
  · exact cfa16 _ hm
  · exact cfa17 _ hm
  · exact cfa18 _ hm
  · exact cfa19 _ hm
  · exact cfa20 _ hm
  · exact cfa100 _ hm
  · exact cfa101 _ hm
  · exact cfa102 _ hm
  · exact cfa103 _ hm
  · exact cfa104 _ hm
  · exact cfa105 _ hm
  · exact cfa106 _ hm
  · exact cfa107 _ hm
  · exact cfa108 _ hm
  · exact cfa109 _ hm
  · exact cfa110 _ hm
  · exact cfa111 _ hm
  · exact cfa112 _ hm
  · exact absurd hm (by simp)
theorem cst_ok {own idx : Nat} {v : PV} (h : lk (tbl own).2.2.1 idx = some v) : KF own idx v := by
  have hm := lk_mem h
  unfold tbl at hm
  split at hm
  · exact kfa0 _ hm
  · exact kfa1 _ hm
  · exact kfa2 _ hm
  · exact kfa3 _ hm
  · exact kfa4 _ hm
  · exact kfa5 _ hm
  · exact kfa6 _ hm
  · exact kfa7 _ hm
  · exact kfa8 _ hm
  · exact kfa9 _ hm
  · exact kfa10 _ hm
  · exact kfa11 _ hm
  · exact kfa12 _ hm
  · exact kfa13 _ hm
  · exact kfa14 _ hm
  · exact kfa15 _ hm
  · exact kfa16 _ hm
  · exact kfa17 _ hm
  · exact kfa18 _ hm
  · exact kfa19 _ hm
  · exact kfa20 _ hm
  · exact kfa100 _ hm
  · exact kfa101 _ hm
  · exact kfa102 _ hm
  · exact kfa103 _ hm
  · exact kfa104 _ hm
  · exact kfa105 _ hm
  · exact kfa106 _ hm
  · exact kfa107 _ hm
  · exact kfa108 _ hm
  · exact kfa109 _ hm
  · exact kfa110 _ hm
  · exact kfa111 _ hm
  · exact kfa112 _ hm
  · exact absurd hm (by simp)
theorem sta_ok {own idx : Nat} {v : PV} (h : lk (tbl own).2.2.2.2.2 idx = some v) : SF own idx v := by
  have hm := lk_mem h
  unfold tbl at hm
  split at hm
  · exact sfa0 _ hm
  · exact sfa1 _ hm
  · exact sfa2 _ hm
  · exact sfa3 _ hm
  · exact sfa4 _ hm
  · exact sfa5 _ hm
  · exact sfa6 _ hm
  · exact sfa7 _ hm
  · exact sfa8 _ hm
  · exact sfa9 _ hm
  · exact sfa10 _ hm
  · exact sfa11 _ hm
  · exact sfa12 _ hm
  · exact sfa13 _ hm
  · exact sfa14 _ hm
  · exact sfa15 _ hm
  · exact sfa16 _ hm
  · exact sfa17 _ hm
  · exact sfa18 _ hm
  · exact sfa19 _ hm
  · exact sfa20 _ hm
  · exact sfa100 _ hm
  · exact sfa101 _ hm
  · exact sfa102 _ hm
  · exact sfa103 _ hm
  · exact sfa104 _ hm
  · exact sfa105 _ hm
  · exact sfa106 _ hm
  · exact sfa107 _ hm
  · exact sfa108 _ hm
  · exact sfa109 _ hm
  · exact sfa110 _ hm
  · exact sfa111 _ hm
  · exact sfa112 _ hm
  · exact absurd hm (by simp)
