/-- the lengths and the bytes of the text constants -/
def slen : List Nat := [12, 4, 5, 2, 5, 5, 5, 4, 6, 4, 4, 7, 3, 5, 6, 5, 2, 3, 3, 2, 4, 4, 3, 5, 120, 12]
def sbyt : List (List Int32) := [[59, 58, 43, 45, 42, 40, 41, 91, 93, 61, 60, 62], [112, 111, 111, 108], [116, 104, 105, 110, 103], [97, 116], [103, 117, 97, 114, 100], [110, 101, 101, 100, 115], [116, 104, 101, 114, 101], [103, 111, 101, 114], [98, 114, 101, 97, 116, 104], [98, 111, 108, 100], [111, 100, 100, 115], [114, 101, 97, 99, 104, 101, 115], [119, 104, 111], [98, 111, 97, 114, 100], [116, 104, 105, 110, 103, 115], [114, 101, 97, 99, 104], [105, 102], [110, 111, 116], [97, 110, 100], [111, 114], [116, 104, 101, 110], [101, 108, 115, 101], [101, 110, 100], [116, 101, 108, 108, 115], [32, 112, 111, 111, 108, 32, 116, 104, 105, 110, 103, 32, 97, 116, 32, 103, 117, 97, 114, 100, 32, 110, 101, 101, 100, 115, 32, 116, 104, 101, 114, 101, 32, 103, 111, 101, 114, 32, 98, 114, 101, 97, 116, 104, 32, 98, 111, 108, 100, 32, 111, 100, 100, 115, 32, 114, 101, 97, 99, 104, 101, 115, 32, 116, 101, 108, 108, 115, 32, 105, 102, 32, 116, 104, 101, 110, 32, 101, 108, 115, 101, 32, 101, 110, 100, 32, 119, 104, 111, 32, 98, 111, 97, 114, 100, 32, 116, 104, 105, 110, 103, 115, 32, 114, 101, 97, 99, 104, 32, 97, 110, 100, 32, 111, 114, 32, 110, 111, 116, 32], [59, 58, 43, 45, 42, 40, 41, 91, 93, 61, 60, 62]]
def sbyz : List (List Int) := [[59, 58, 43, 45, 42, 40, 41, 91, 93, 61, 60, 62], [112, 111, 111, 108], [116, 104, 105, 110, 103], [97, 116], [103, 117, 97, 114, 100], [110, 101, 101, 100, 115], [116, 104, 101, 114, 101], [103, 111, 101, 114], [98, 114, 101, 97, 116, 104], [98, 111, 108, 100], [111, 100, 100, 115], [114, 101, 97, 99, 104, 101, 115], [119, 104, 111], [98, 111, 97, 114, 100], [116, 104, 105, 110, 103, 115], [114, 101, 97, 99, 104], [105, 102], [110, 111, 116], [97, 110, 100], [111, 114], [116, 104, 101, 110], [101, 108, 115, 101], [101, 110, 100], [116, 101, 108, 108, 115], [32, 112, 111, 111, 108, 32, 116, 104, 105, 110, 103, 32, 97, 116, 32, 103, 117, 97, 114, 100, 32, 110, 101, 101, 100, 115, 32, 116, 104, 101, 114, 101, 32, 103, 111, 101, 114, 32, 98, 114, 101, 97, 116, 104, 32, 98, 111, 108, 100, 32, 111, 100, 100, 115, 32, 114, 101, 97, 99, 104, 101, 115, 32, 116, 101, 108, 108, 115, 32, 105, 102, 32, 116, 104, 101, 110, 32, 101, 108, 115, 101, 32, 101, 110, 100, 32, 119, 104, 111, 32, 98, 111, 97, 114, 100, 32, 116, 104, 105, 110, 103, 115, 32, 114, 101, 97, 99, 104, 32, 97, 110, 100, 32, 111, 114, 32, 110, 111, 116, 32], [59, 58, 43, 45, 42, 40, 41, 91, 93, 61, 60, 62]]
/-- where they are loaded: class, index, text, number -/
def strT : List (Nat × Nat × String × Nat) := [(6, 244, ";:+-*()[]=<>", 0), (6, 45, "pool", 1), (6, 64, "thing", 2), (6, 108, "at", 3), (6, 117, "guard", 4), (6, 121, "needs", 5), (6, 125, "there", 6), (6, 73, "goer", 7), (6, 132, "breath", 8), (6, 142, "bold", 9), (6, 146, "odds", 10), (6, 78, "reaches", 11), (6, 211, "who", 12), (6, 213, "board", 13), (6, 214, "things", 14), (6, 215, "reach", 15), (6, 183, "if", 16), (6, 206, "not", 17), (6, 204, "and", 18), (6, 199, "or", 19), (6, 191, "then", 20), (6, 193, "else", 21), (6, 195, "end", 22), (6, 90, "tells", 23), (12, 88, " pool thing at guard needs there goer breath bold odds reaches tells if then else end who board things reach and or not ", 24), (12, 126, ";:+-*()[]=<>", 25), (106, 244, ";:+-*()[]=<>", 0), (106, 45, "pool", 1), (106, 64, "thing", 2), (106, 108, "at", 3), (106, 117, "guard", 4), (106, 121, "needs", 5), (106, 125, "there", 6), (106, 73, "goer", 7), (106, 132, "breath", 8), (106, 142, "bold", 9), (106, 146, "odds", 10), (106, 78, "reaches", 11), (106, 211, "who", 12), (106, 213, "board", 13), (106, 214, "things", 14), (106, 215, "reach", 15), (106, 183, "if", 16), (106, 206, "not", 17), (106, 204, "and", 18), (106, 199, "or", 19), (106, 191, "then", 20), (106, 193, "else", 21), (106, 195, "end", 22), (106, 90, "tells", 23), (112, 88, " pool thing at guard needs there goer breath bold odds reaches tells if then else end who board things reach and or not ", 24), (112, 126, ";:+-*()[]=<>", 25)]
/-- the links between nest mates -/
def NW : List Cond := [(Jvm.Cond.methodLinkNest "DepthBoard" (11 : Nat) ({ cls := "DepthBoard$Reader", name := "<init>", desc := "()V" } : Jvm.MethodName) "DepthBoard"), (Jvm.Cond.methodLinkNest "DepthBoard$Reader" (21 : Nat) ({ cls := "DepthBoard$Pool", name := "<init>", desc := "()V" } : Jvm.MethodName) "DepthBoard"), (Jvm.Cond.fieldLinkNest "DepthBoard$Pool" (30 : Nat) "DepthBoard" "NO_LAW" "[I" "DepthBoard"), (Jvm.Cond.methodLinkNest "DepthBoard" (18 : Nat) ({ cls := "DepthBoard$Diver", name := "<init>", desc := "()V" } : Jvm.MethodName) "DepthBoard"), (Jvm.Cond.methodLinkNest "DepthBoard" (25 : Nat) ({ cls := "DepthBoard$Stand", name := "<init>", desc := "()V" } : Jvm.MethodName) "DepthBoard"), (Jvm.Cond.methodLinkNest "DepthBoard$Past" (17 : Nat) ({ cls := "DepthBoard$Stand", name := "<init>", desc := "()V" } : Jvm.MethodName) "DepthBoard"), (Jvm.Cond.methodLinkNest "DepthBoard" (42 : Nat) ({ cls := "DepthBoard$Pool", name := "<init>", desc := "()V" } : Jvm.MethodName) "DepthBoard"), (Jvm.Cond.methodLinkNest "DepthBoard" (49 : Nat) ({ cls := "DepthBoard$Tray", name := "<init>", desc := "()V" } : Jvm.MethodName) "DepthBoard"), (Jvm.Cond.methodLinkNest "DepthBoard" (56 : Nat) ({ cls := "DepthBoard$Image", name := "<init>", desc := "()V" } : Jvm.MethodName) "DepthBoard"), (Jvm.Cond.methodLinkNest "DepthBoard$Image" (9 : Nat) ({ cls := "DepthBoard$Stand", name := "<init>", desc := "()V" } : Jvm.MethodName) "DepthBoard"), (Jvm.Cond.methodLinkNest "DepthBoard$Image" (18 : Nat) ({ cls := "DepthBoard$Pool", name := "<init>", desc := "()V" } : Jvm.MethodName) "DepthBoard"), (Jvm.Cond.methodLinkNest "DepthBoard$Diver" (53 : Nat) ({ cls := "DepthBoard", name := "has", desc := "(II)Z" } : Jvm.MethodName) "DepthBoard"), (Jvm.Cond.methodLinkNest "DepthBoard$Search" (13 : Nat) ({ cls := "DepthBoard$Stand", name := "<init>", desc := "()V" } : Jvm.MethodName) "DepthBoard"), (Jvm.Cond.methodLinkNest "DepthBoard$Search" (89 : Nat) ({ cls := "DepthBoard", name := "stateOf", desc := "(II)I" } : Jvm.MethodName) "DepthBoard"), (Jvm.Cond.methodLinkNest "DepthBoard$Search" (97 : Nat) ({ cls := "DepthBoard", name := "has", desc := "(II)Z" } : Jvm.MethodName) "DepthBoard"), (Jvm.Cond.methodLinkNest "DepthBoard$Search" (104 : Nat) ({ cls := "DepthBoard", name := "boardOf", desc := "(I)I" } : Jvm.MethodName) "DepthBoard"), (Jvm.Cond.methodLinkNest "DepthBoard$Search" (108 : Nat) ({ cls := "DepthBoard", name := "thingsOf", desc := "(I)I" } : Jvm.MethodName) "DepthBoard"), (Jvm.Cond.methodLinkNest "DepthBoard$Tally" (105 : Nat) ({ cls := "DepthBoard", name := "has", desc := "(II)Z" } : Jvm.MethodName) "DepthBoard"), (Jvm.Cond.methodLinkNest "DepthBoard" (275 : Nat) ({ cls := "DepthBoard$NumberSet", name := "<init>", desc := "()V" } : Jvm.MethodName) "DepthBoard"), (Jvm.Cond.methodLinkNest "DepthBoard$Game" (52 : Nat) ({ cls := "DepthBoard", name := "has", desc := "(II)Z" } : Jvm.MethodName) "DepthBoard")]
def tyl (cA : Nat → ClassId) : List (ClassId × FieldType) := [(cA 20, .byte), (cA 21, .int), (cA 22, .long), (cA 23, .boolean), (cA 24, .object RX2), (cA 25, .object RX8), (cA 26, .object RX10)]
/-- the words that every method is given -/
def TG : List Cond := lw_tbl.filter goodWord
/-- the text constants: Strings of one byte a char -/
def sS (adK adV : Nat → Nat) (A : Nat → Prop) (U : State) (H : Heap) : Prop :=
  ∀ i : Nat, i < 26 → va_O "java/lang/String" (adK i) A U H ∧ va_OF "java/lang/String" "coder" "B" (.int 0) (adK i) A U H ∧ va_OF "java/lang/String" "value" "[B" (.ref (adV i)) (adK i) A U H ∧ va_T .byte (adV i) (slen.getD i 0) (fun j => .int ((sbyt.getD i []).getD j 0)) A U H
theorem sS.moved {adK adV : Nat → Nat} {A : Nat → Prop} {u U : State} {H : Heap} (hvm : u.vm.Alike U.vm) (h : sS adK adV A u H) : sS adK adV A U H := fun i hi => ⟨va_O.moved hvm (h i hi).1, va_OF.moved hvm (h i hi).2.1, va_OF.moved hvm (h i hi).2.2.1, va_T.moved hvm (h i hi).2.2.2⟩
theorem sS.kept {adK adV : Nat → Nat} {A : Nat → Prop} {U : State} {H H1 : Heap} (h : sS adK adV A U H) (hq : ∀ a : Nat, a < H.size → ¬ A a → H1[a]? = H[a]?) : sS adK adV A U H1 := fun i hi => ⟨(h i hi).1.kept hq, (h i hi).2.1.kept hq, (h i hi).2.2.1.kept hq, (h i hi).2.2.2.kept hq⟩
/-- what is known of the machine where a method begins: classes, rows, text constants, statics, the script -/
def Cx (D : va_G) (b0 : Nat) (cA : Nat → ClassId) (av : Nat → Value) (adK adV : Nat → Nat) (L : Nat) (xs : Nat → Int32) (s : State) : Prop :=
  va_K D vwCl (tyl cA) s ∧ sS adK adV (fun q => b0 ≤ q) s s.heap ∧ (∀ e ∈ strT, vk_R (cn e.1) e.2.1 e.2.2.1 (adK e.2.2.2) s) ∧
  (∃ t : Nat, av 90 = .ref t ∧ va_Z RX11 "NO_LAW" "[I" (.ref t) (fun q => b0 ≤ q) s s.heap ∧ va_T .int t 0 (fun _ => .null) (fun q => b0 ≤ q) s s.heap) ∧
  va_Z RJ0 "COMPACT_STRINGS" "Z" (.int 1) (fun q => b0 ≤ q) s s.heap ∧
  va_Z RJ3 "SIOOBE_FORMATTER" "Ljava/util/function/BiFunction;" (av 95) (fun q => b0 ≤ q) s s.heap ∧
  (∃ b : Nat, av 91 = .ref b ∧ va_X b L xs s s.heap ∧ b < s.heap.size ∧ b < b0) ∧ b0 ≤ s.heap.size ∧ (∀ w ∈ NW, va_Nw w s) ∧ va_AO RX2 s ∧ va_AO RX8 s ∧ va_AO RX10 s
def Av (b0 : Nat) (av : Nat → Value) (adK adV : Nat → Nat) : Prop := AvOk b0 av ∧ (∀ j, j < 26 → av (1 + j) = .ref (adK j)) ∧ ∀ j, j < 26 → av (101 + j) = .ref (adV j)
/-- what the pure heap holds below 200: text constants, NO_LAW, the script -/
def okd (L : Nat) (a : Nat) : Nat × Nat := if 1 ≤ a ∧ a ≤ 26 then (14, 0) else if 101 ≤ a ∧ a ≤ 126 then (20, slen.getD (a - 101) 0) else if a = 90 then (21, 0) else if a = 91 then (21, L) else (99, 0)
def OldEq (L : Nat) (xs : Nat → Int32) (h : Hp) : Prop := (∀ a, a < 200 → hK h a = okd L a) ∧ (∀ j, j < 26 → hR h (1 + j) 0 = 101 + j ∧ hI h (1 + j) 1 = 0 ∧ ∀ k, hI h (101 + j) k = ((sbyt.getD j []).getD k 0).toInt) ∧ ∀ k, hI h 91 k = (xs k).toInt
theorem OldEq_wI {L : Nat} {xs : Nat → Int32} {h : Hp} (ho : OldEq L xs h) {a k : Nat} {v : Int} (ha : 200 ≤ a) : OldEq L xs (wI h a k v) := by
  refine ⟨ho.1, fun j hj => ⟨(ho.2.1 j hj).1, ?_, fun k' => ?_⟩, fun k' => ?_⟩
  · rw [hI_wI, if_neg (by omega)]; exact (ho.2.1 j hj).2.1
  · rw [hI_wI, if_neg (by omega)]; exact (ho.2.1 j hj).2.2 k'
  · rw [hI_wI, if_neg (by omega)]; exact ho.2.2 k'
theorem OldEq_wJ {L : Nat} {xs : Nat → Int32} {h : Hp} (ho : OldEq L xs h) {a k : Nat} {v : Int} : OldEq L xs (wJ h a k v) := ho
theorem OldEq_wR {L : Nat} {xs : Nat → Int32} {h : Hp} (ho : OldEq L xs h) {a k v : Nat} (ha : 200 ≤ a) : OldEq L xs (wR h a k v) := by
  refine ⟨ho.1, fun j hj => ⟨?_, (ho.2.1 j hj).2.1, (ho.2.1 j hj).2.2⟩, ho.2.2⟩
  rw [hR_wR, if_neg (by omega)]; exact (ho.2.1 j hj).1
theorem OldEq_cp {L : Nat} {xs : Nat → Int32} {h : Hp} (ho : OldEq L xs h) {s sp d dp n : Nat} (ha : 200 ≤ d) : OldEq L xs (cpI h s sp d dp n) := by
  refine ⟨ho.1, fun j hj => ⟨(ho.2.1 j hj).1, ?_, fun k' => ?_⟩, fun k' => ?_⟩
  · rw [hI_cp, if_neg (by omega)]; exact (ho.2.1 j hj).2.1
  · rw [hI_cp, if_neg (by omega)]; exact (ho.2.1 j hj).2.2 k'
  · rw [hI_cp, if_neg (by omega)]; exact ho.2.2 k'
theorem OldEq_nw {L : Nat} {xs : Nat → Int32} {h : Hp} (ho : OldEq L xs h) {c l s : Nat} : OldEq L xs (nw h c l s) := by
  refine ⟨fun a ha => ?_, fun j hj => ⟨?_, ?_, fun k' => ?_⟩, fun k' => ?_⟩
  · rw [hK_nw, if_neg (by omega)]; exact ho.1 a ha
  · rw [hR_nw, if_neg (by omega)]; exact (ho.2.1 j hj).1
  · rw [hI_nw, if_neg (by omega)]; exact (ho.2.1 j hj).2.1
  · rw [hI_nw, if_neg (by omega)]; exact (ho.2.1 j hj).2.2 k'
  · rw [hI_nw, if_neg (by omega)]; exact ho.2.2 k'
/-- a pure state and a real one -/
def St (D : va_G) (b0 : Nat) (cA : Nat → ClassId) (av : Nat → Value) (L : Nat) (xs : Nat → Int32) (s : State) (nL s0 : Nat) (ls : List (Option PV)) (st : List PV) (h : Hp) (H : Heap) (locs : List Loc) (cells slots : Nat) (la : Array Slot) : Prop :=
  LR av ls nL la ∧ okl ls ∧ (∀ v ∈ st, okv v) ∧ va_P D vwCl (wsl b0 av cA h) H ∧ okh h ∧ OldEq L xs h ∧ va_S (fun q => b0 ≤ q) s.heap H locs ∧ s.heap.size + cells = b0 + hN h ∧ slots + s0 = hS h ∧ (∀ a, 200 ≤ a → a < 200 + hN h → (hK h a).1 < 13 ∨ (20 ≤ (hK h a).1 ∧ (hK h a).1 ≤ 26))
/-- a method at work: its code, its class, the words, what is known -/
def Fx (D : va_G) (b0 : Nat) (cA : Nat → ClassId) (av : Nat → Value) (adK adV : Nat → Nat) (L : Nat) (xs : Nat → Int32) (p : Program) (R : Room) (s : State) (m : MethodId) (args : Array Value) (meth : Method) (c : Code) (M : Me) : Prop :=
  p.tables.exec = Jvm.exec ∧ c.code = M.2.2.1 ∧ meth.sig.returnType = M.2.2.2.2 ∧ c.maxLocals = M.2.2.2.1 ∧ s.vm.findClass (cn M.1) = some m.cls ∧ (100 ≤ M.1 → meth.name = M.2.1.name) ∧ (∀ w ∈ TG, w.before args s = true) ∧ meth.locks = false ∧ Cx D b0 cA av adK adV L xs s ∧ Av b0 av adK adV ∧ 1 ≤ R.frames ∧ 64 ≤ R.locals
section Sim
variable {D : va_G} {b0 : Nat} {cA : Nat → ClassId} {av : Nat → Value} {adK adV : Nat → Nat} {L : Nat} {xs : Nat → Int32} {p : Program} {l : Launch} {e : Env} {R : Room} {s : State} {m : MethodId} {args : Array Value} {below : List Frame} {meth : Method} {c : Code} {M : Me} {Q : State → Prop} {s0 pc len : Nat} {ls : List (Option PV)} {t : List PV} {h : Hp} {H : Heap} {locs : List Loc} {cells slots : Nat} {la : Array Slot}
/-- from every real state that stands for the pure one the machine comes to Q -/
def Go (D : va_G) (b0 : Nat) (cA : Nat → ClassId) (av : Nat → Value) (L : Nat) (xs : Nat → Int32) (p : Program) (l : Launch) (e : Env) (R : Room) (s : State) (m : MethodId) (args : Array Value) (below : List Frame) (meth : Method) (c : Code) (M : Me) (s0 : Nat) (Q : State → Prop) (x : Nx) : Prop :=
  ∀ (H : Heap) (locs : List Loc) (cells slots : Nat) (la : Array Slot), St D b0 cA av L xs s M.2.2.2.1 s0 x.2.1 x.2.2.1 x.2.2.2 H locs cells slots la → W p l e R s m args below meth c H locs cells slots Q (F0 m x.1 la (x.2.2.1.map (cv av)))
theorem s_stack {st st' : List PV} {pc' : Nat} (hst : (∀ v ∈ st, okv v) → ∀ v ∈ st', okv v) (hw : (∀ v ∈ st, okv v) → ∀ (H : Heap) (locs : List Loc) (cells slots : Nat) (la : Array Slot), W p l e R s m args below meth c H locs cells slots Q (F0 m pc' la (st'.map (cv av))) → W p l e R s m args below meth c H locs cells slots Q (F0 m pc la (st.map (cv av))))
    (k : Go D b0 cA av L xs p l e R s m args below meth c M s0 Q (pc', ls, st', h)) : Go D b0 cA av L xs p l e R s m args below meth c M s0 Q (pc, ls, st, h) := by
  intro H locs cells slots la S
  obtain ⟨h1, h2, h3, h4⟩ := S
  exact hw h3 H locs cells slots la (k H locs cells slots la ⟨h1, h2, hst h3, h4⟩)
theorem s_mbin {f : Int → Int → Int} {st : List PV} {x : Nx} (hs : mbin len pc ls st h f = some x) (hin : ∀ a b, in32 a → in32 b → in32 (f a b)) (hw : ∀ (a b : Int) (t : List PV), len = 1 → in32 a → in32 b → ∀ (H : Heap) (locs : List Loc) (cells slots : Nat) (la : Array Slot), W p l e R s m args below meth c H locs cells slots Q (F0 m (pc + 1) la (.int (Int32.ofInt (f a b)) :: t.map (cv av))) → W p l e R s m args below meth c H locs cells slots Q (F0 m pc la (.int (Int32.ofInt b) :: .int (Int32.ofInt a) :: t.map (cv av))))
    (k : Go D b0 cA av L xs p l e R s m args below meth c M s0 Q x) : Go D b0 cA av L xs p l e R s m args below meth c M s0 Q (pc, ls, st, h) := by
  unfold mbin at hs
  split at hs
  · rename_i b a t
    split at hs
    · rename_i hl
      cases hs
      refine s_stack (pc' := pc + 1) (st' := .inl (f a b) :: t) ?_ ?_ k
      · intro hv v hm
        rcases List.mem_cons.mp hm with rfl | hm
        · exact hin a b (hv (.inl a) (by simp)) (hv (.inl b) (by simp))
        · exact hv v (by simp [hm])
      · intro hv H locs cells slots la w
        exact hw a b t hl (hv (.inl a) (by simp)) (hv (.inl b) (by simp)) H locs cells slots la w
    · cases hs
  · cases hs
theorem s_mdiv {f : Int → Int → Int} {st : List PV} {x : Nx} (hs : mdiv len pc ls st h f = some x) (hin : ∀ a b, in32 a → in32 b → in32 (f a b)) (hw : ∀ (a b : Int) (t : List PV), len = 1 → in32 a → in32 b → b ≠ 0 → ∀ (H : Heap) (locs : List Loc) (cells slots : Nat) (la : Array Slot), W p l e R s m args below meth c H locs cells slots Q (F0 m (pc + 1) la (.int (Int32.ofInt (f a b)) :: t.map (cv av))) → W p l e R s m args below meth c H locs cells slots Q (F0 m pc la (.int (Int32.ofInt b) :: .int (Int32.ofInt a) :: t.map (cv av))))
    (k : Go D b0 cA av L xs p l e R s m args below meth c M s0 Q x) : Go D b0 cA av L xs p l e R s m args below meth c M s0 Q (pc, ls, st, h) := by
  unfold mdiv at hs
  split at hs
  · rename_i b a t
    split at hs
    · rename_i hl
      cases hs
      refine s_stack (pc' := pc + 1) (st' := .inl (f a b) :: t) ?_ ?_ k
      · intro hv v hm
        rcases List.mem_cons.mp hm with rfl | hm
        · exact hin a b (hv (.inl a) (by simp)) (hv (.inl b) (by simp))
        · exact hv v (by simp [hm])
      · intro hv H locs cells slots la w
        exact hw a b t hl.1 (hv (.inl a) (by simp)) (hv (.inl b) (by simp)) hl.2 H locs cells slots la w
    · cases hs
  · cases hs
theorem s_mbinL {f : Int → Int → Int} {st : List PV} {x : Nx} (hs : mbinL len pc ls st h f = some x) (hin : ∀ a b, in64 a → in64 b → in64 (f a b)) (hw : ∀ (a b : Int) (t : List PV), len = 1 → in64 a → in64 b → ∀ (H : Heap) (locs : List Loc) (cells slots : Nat) (la : Array Slot), W p l e R s m args below meth c H locs cells slots Q (F0 m (pc + 1) la (.long (Int64.ofInt (f a b)) :: t.map (cv av))) → W p l e R s m args below meth c H locs cells slots Q (F0 m pc la (.long (Int64.ofInt b) :: .long (Int64.ofInt a) :: t.map (cv av))))
    (k : Go D b0 cA av L xs p l e R s m args below meth c M s0 Q x) : Go D b0 cA av L xs p l e R s m args below meth c M s0 Q (pc, ls, st, h) := by
  unfold mbinL at hs
  split at hs
  · rename_i b a t
    split at hs
    · rename_i hl
      cases hs
      refine s_stack (pc' := pc + 1) (st' := .inr (.inl (f a b)) :: t) ?_ ?_ k
      · intro hv v hm
        rcases List.mem_cons.mp hm with rfl | hm
        · exact hin a b (hv (.inr (.inl a)) (by simp)) (hv (.inr (.inl b)) (by simp))
        · exact hv v (by simp [hm])
      · intro hv H locs cells slots la w
        exact hw a b t hl (hv (.inr (.inl a)) (by simp)) (hv (.inr (.inl b)) (by simp)) H locs cells slots la w
    · cases hs
  · cases hs
theorem s_mdivL {f : Int → Int → Int} {st : List PV} {x : Nx} (hs : mdivL len pc ls st h f = some x) (hin : ∀ a b, in64 a → in64 b → in64 (f a b)) (hw : ∀ (a b : Int) (t : List PV), len = 1 → in64 a → in64 b → b ≠ 0 → ∀ (H : Heap) (locs : List Loc) (cells slots : Nat) (la : Array Slot), W p l e R s m args below meth c H locs cells slots Q (F0 m (pc + 1) la (.long (Int64.ofInt (f a b)) :: t.map (cv av))) → W p l e R s m args below meth c H locs cells slots Q (F0 m pc la (.long (Int64.ofInt b) :: .long (Int64.ofInt a) :: t.map (cv av))))
    (k : Go D b0 cA av L xs p l e R s m args below meth c M s0 Q x) : Go D b0 cA av L xs p l e R s m args below meth c M s0 Q (pc, ls, st, h) := by
  unfold mdivL at hs
  split at hs
  · rename_i b a t
    split at hs
    · rename_i hl
      cases hs
      refine s_stack (pc' := pc + 1) (st' := .inr (.inl (f a b)) :: t) ?_ ?_ k
      · intro hv v hm
        rcases List.mem_cons.mp hm with rfl | hm
        · exact hin a b (hv (.inr (.inl a)) (by simp)) (hv (.inr (.inl b)) (by simp))
        · exact hv v (by simp [hm])
      · intro hv H locs cells slots la w
        exact hw a b t hl.1 (hv (.inr (.inl a)) (by simp)) (hv (.inr (.inl b)) (by simp)) hl.2 H locs cells slots la w
    · cases hs
  · cases hs
theorem s_mbinLI {f : Int → Int → Int} {st : List PV} {x : Nx} (hs : mbinLI len pc ls st h f = some x) (hin : ∀ a b, in64 a → in32 b → in64 (f a b)) (hw : ∀ (a b : Int) (t : List PV), len = 1 → in64 a → in32 b → ∀ (H : Heap) (locs : List Loc) (cells slots : Nat) (la : Array Slot), W p l e R s m args below meth c H locs cells slots Q (F0 m (pc + 1) la (.long (Int64.ofInt (f a b)) :: t.map (cv av))) → W p l e R s m args below meth c H locs cells slots Q (F0 m pc la (.int (Int32.ofInt b) :: .long (Int64.ofInt a) :: t.map (cv av))))
    (k : Go D b0 cA av L xs p l e R s m args below meth c M s0 Q x) : Go D b0 cA av L xs p l e R s m args below meth c M s0 Q (pc, ls, st, h) := by
  unfold mbinLI at hs
  split at hs
  · rename_i b a t
    split at hs
    · rename_i hl
      cases hs
      refine s_stack (pc' := pc + 1) (st' := .inr (.inl (f a b)) :: t) ?_ ?_ k
      · intro hv v hm
        rcases List.mem_cons.mp hm with rfl | hm
        · exact hin a b (hv (.inr (.inl a)) (by simp)) (hv (.inl b) (by simp))
        · exact hv v (by simp [hm])
      · intro hv H locs cells slots la w
        exact hw a b t hl (hv (.inr (.inl a)) (by simp)) (hv (.inl b) (by simp)) H locs cells slots la w
    · cases hs
  · cases hs
theorem s_mun {f : Int → Int} {st : List PV} {x : Nx} (hs : mun len pc ls st h f = some x) (hin : ∀ a, in32 a → in32 (f a)) (hw : ∀ (a : Int) (t : List PV), len = 1 → in32 a → ∀ (H : Heap) (locs : List Loc) (cells slots : Nat) (la : Array Slot), W p l e R s m args below meth c H locs cells slots Q (F0 m (pc + 1) la (.int (Int32.ofInt (f a)) :: t.map (cv av))) → W p l e R s m args below meth c H locs cells slots Q (F0 m pc la (.int (Int32.ofInt a) :: t.map (cv av))))
    (k : Go D b0 cA av L xs p l e R s m args below meth c M s0 Q x) : Go D b0 cA av L xs p l e R s m args below meth c M s0 Q (pc, ls, st, h) := by
  unfold mun at hs
  split at hs
  · rename_i a t
    split at hs
    · rename_i hl
      cases hs
      refine s_stack (pc' := pc + 1) (st' := .inl (f a) :: t) ?_ ?_ k
      · intro hv v hm
        rcases List.mem_cons.mp hm with rfl | hm
        · exact hin a (hv (.inl a) (by simp))
        · exact hv v (by simp [hm])
      · intro hv H locs cells slots la w
        exact hw a t hl (hv (.inl a) (by simp)) H locs cells slots la w
    · cases hs
  · cases hs
theorem s_cst {v : PV} {k : Nat} {st : List PV} {x : Nx} (hs : mcst len k pc ls st h v = some x) (hv : okv v) (hw : len = k → ∀ (H : Heap) (locs : List Loc) (cells slots : Nat) (la : Array Slot), W p l e R s m args below meth c H locs cells slots Q (F0 m (pc + k) la (cv av v :: st.map (cv av))) → W p l e R s m args below meth c H locs cells slots Q (F0 m pc la (st.map (cv av))))
    (kk : Go D b0 cA av L xs p l e R s m args below meth c M s0 Q x) : Go D b0 cA av L xs p l e R s m args below meth c M s0 Q (pc, ls, st, h) := by
  unfold mcst at hs
  split at hs
  · rename_i hl
    cases hs
    refine s_stack (pc' := pc + k) (st' := v :: st) ?_ ?_ kk
    · intro h3 w hm
      rcases List.mem_cons.mp hm with rfl | hm
      · exact hv
      · exact h3 w hm
    · intro _ H locs cells slots la w
      exact hw hl H locs cells slots la w
  · cases hs
theorem s_cI {lo hi n : Int} {k : Nat} {st : List PV} {x : Nx} (hs : mcI len k pc ls st h lo hi n = some x) (hlo : -32768 ≤ lo) (hhi : hi ≤ 32767) (hw : len = k → lo ≤ n → n ≤ hi → ∀ (H : Heap) (locs : List Loc) (cells slots : Nat) (la : Array Slot), W p l e R s m args below meth c H locs cells slots Q (F0 m (pc + k) la (.int (Int32.ofInt n) :: st.map (cv av))) → W p l e R s m args below meth c H locs cells slots Q (F0 m pc la (st.map (cv av))))
    (kk : Go D b0 cA av L xs p l e R s m args below meth c M s0 Q x) : Go D b0 cA av L xs p l e R s m args below meth c M s0 Q (pc, ls, st, h) := by
  unfold mcI at hs
  split at hs
  · rename_i hl
    cases hs
    refine s_stack (pc' := pc + k) (st' := .inl n :: st) ?_ ?_ kk
    · intro h3 w hm
      rcases List.mem_cons.mp hm with rfl | hm
      · show in32 n
        unfold in32; omega
      · exact h3 w hm
    · intro _ H locs cells slots la w
      exact hw hl.1 hl.2.1 hl.2.2 H locs cells slots la w
  · cases hs
theorem s_ldI {i k : Nat} {st : List PV} {x : Nx} (hs : mldI len k pc ls st h i = some x) (hw : ∀ z : Int, len = k → ∀ (H : Heap) (locs : List Loc) (cells slots : Nat) (la : Array Slot), la[i]? = some (.val (.int (Int32.ofInt z))) → W p l e R s m args below meth c H locs cells slots Q (F0 m (pc + k) la (.int (Int32.ofInt z) :: st.map (cv av))) → W p l e R s m args below meth c H locs cells slots Q (F0 m pc la (st.map (cv av))))
    (kk : Go D b0 cA av L xs p l e R s m args below meth c M s0 Q x) : Go D b0 cA av L xs p l e R s m args below meth c M s0 Q (pc, ls, st, h) := by
  unfold mldI at hs
  split at hs
  · rename_i z hz
    split at hs
    · rename_i hl
      cases hs
      intro H locs cells slots la S
      refine hw z hl H locs cells slots la (S.1.at1 hz (fun _ q => by cases q)) (kk H locs cells slots la ⟨S.1, S.2.1, ?_, S.2.2.2⟩)
      intro w hm
      rcases List.mem_cons.mp hm with rfl | hm
      · exact S.2.1 _ _ hz
      · exact S.2.2.1 w hm
    · cases hs
  · cases hs
theorem s_ldL {i k : Nat} {st : List PV} {x : Nx} (hs : mldL len k pc ls st h i = some x) (hw : ∀ z : Int, len = k → ∀ (H : Heap) (locs : List Loc) (cells slots : Nat) (la : Array Slot), la[i]? = some (.val (.long (Int64.ofInt z))) → W p l e R s m args below meth c H locs cells slots Q (F0 m (pc + k) la (.long (Int64.ofInt z) :: st.map (cv av))) → W p l e R s m args below meth c H locs cells slots Q (F0 m pc la (st.map (cv av))))
    (kk : Go D b0 cA av L xs p l e R s m args below meth c M s0 Q x) : Go D b0 cA av L xs p l e R s m args below meth c M s0 Q (pc, ls, st, h) := by
  unfold mldL at hs
  split at hs
  · rename_i z hz
    split at hs
    · rename_i hl
      cases hs
      intro H locs cells slots la S
      refine hw z hl.1 H locs cells slots la (S.1.at1 hz (fun _ _ => hl.2)) (kk H locs cells slots la ⟨S.1, S.2.1, ?_, S.2.2.2⟩)
      intro w hm
      rcases List.mem_cons.mp hm with rfl | hm
      · exact S.2.1 _ _ hz
      · exact S.2.2.1 w hm
    · cases hs
  · cases hs
theorem s_ldA {i k : Nat} {st : List PV} {x : Nx} (hs : mldA len k pc ls st h i = some x) (hw : ∀ a : Nat, len = k → ∀ (H : Heap) (locs : List Loc) (cells slots : Nat) (la : Array Slot), la[i]? = some (.val (av a)) → W p l e R s m args below meth c H locs cells slots Q (F0 m (pc + k) la (av a :: st.map (cv av))) → W p l e R s m args below meth c H locs cells slots Q (F0 m pc la (st.map (cv av))))
    (kk : Go D b0 cA av L xs p l e R s m args below meth c M s0 Q x) : Go D b0 cA av L xs p l e R s m args below meth c M s0 Q (pc, ls, st, h) := by
  unfold mldA at hs
  split at hs
  · rename_i z hz
    split at hs
    · rename_i hl
      cases hs
      intro H locs cells slots la S
      refine hw z hl H locs cells slots la (S.1.at1 hz (fun _ q => by cases q)) (kk H locs cells slots la ⟨S.1, S.2.1, ?_, S.2.2.2⟩)
      intro w hm
      rcases List.mem_cons.mp hm with rfl | hm
      · trivial
      · exact S.2.2.1 w hm
    · cases hs
  · cases hs
theorem s_stI (hav : AvOk b0 av) {i k : Nat} {st : List PV} {x : Nx} (hs : mstI len k pc ls st h i = some x) (hw : ∀ (z : Int) (t : List PV), len = k → ∀ (H : Heap) (locs : List Loc) (cells slots : Nat) (la : Array Slot) (lv : List (Nat × Value)) (nL : Nat), lv_has la nL lv → i < nL → (∀ la' : Array Slot, lv_has la' nL ((i, Value.int (Int32.ofInt z)) :: lv.filter (fun q => !(q.1 == i) && !(q.1 + 1 == i && q.2.category == 2))) → W p l e R s m args below meth c H locs cells slots Q (F0 m (pc + k) la' (t.map (cv av)))) → W p l e R s m args below meth c H locs cells slots Q (F0 m pc la (.int (Int32.ofInt z) :: t.map (cv av))))
    (kk : Go D b0 cA av L xs p l e R s m args below meth c M s0 Q x) : Go D b0 cA av L xs p l e R s m args below meth c M s0 Q (pc, ls, st, h) := by
  unfold mstI at hs
  split at hs
  · rename_i z t
    split at hs
    · rename_i hl
      cases hs
      intro H locs cells slots la S
      refine hw z t hl.1 H locs cells slots la _ _ S.1.2 (by rw [← S.1.1]; exact hl.2) (fun la' h' => ?_)
      have hz : okv (.inl z) := S.2.2.1 _ (by simp)
      exact kk H locs cells slots la' ⟨S.1.store1 hav (v := .inl z) rfl h', S.2.1.set i (fun w hw => by cases hw; exact hz), fun w hm => S.2.2.1 w (by simp [hm]), S.2.2.2⟩
    · cases hs
  · cases hs
theorem s_stA (hav : AvOk b0 av) {i k : Nat} {st : List PV} {x : Nx} (hs : mstA len k pc ls st h i = some x) (hw : ∀ (a : Nat) (t : List PV), len = k → ∀ (H : Heap) (locs : List Loc) (cells slots : Nat) (la : Array Slot) (lv : List (Nat × Value)) (nL : Nat), lv_has la nL lv → i < nL → (∀ la' : Array Slot, lv_has la' nL ((i, av a) :: lv.filter (fun q => !(q.1 == i) && !(q.1 + 1 == i && q.2.category == 2))) → W p l e R s m args below meth c H locs cells slots Q (F0 m (pc + k) la' (t.map (cv av)))) → W p l e R s m args below meth c H locs cells slots Q (F0 m pc la (av a :: t.map (cv av))))
    (kk : Go D b0 cA av L xs p l e R s m args below meth c M s0 Q x) : Go D b0 cA av L xs p l e R s m args below meth c M s0 Q (pc, ls, st, h) := by
  unfold mstA at hs
  split at hs
  · rename_i a t
    split at hs
    · rename_i hl
      cases hs
      intro H locs cells slots la S
      refine hw a t hl.1 H locs cells slots la _ _ S.1.2 (by rw [← S.1.1]; exact hl.2) (fun la' h' => ?_)
      exact kk H locs cells slots la' ⟨S.1.store1 hav (v := .inr (.inr a)) (cv_cat hav (.inr (.inr a))) h', S.2.1.set i (fun w hw => by cases hw; trivial), fun w hm => S.2.2.1 w (by simp [hm]), S.2.2.2⟩
    · cases hs
  · cases hs
theorem s_stL (hav : AvOk b0 av) {i k : Nat} {st : List PV} {x : Nx} (hs : mstL len k pc ls st h i = some x) (hw : ∀ (z : Int) (t : List PV), len = k → ∀ (H : Heap) (locs : List Loc) (cells slots : Nat) (la : Array Slot) (lv : List (Nat × Value)) (nL : Nat), lv_has la nL lv → i + 1 < nL → (∀ la' : Array Slot, lv_has la' nL ((i, Value.long (Int64.ofInt z)) :: lv.filter (fun q => !(q.1 == i) && (!(q.1 == i + 1) && !(q.1 + 1 == i && q.2.category == 2)))) → W p l e R s m args below meth c H locs cells slots Q (F0 m (pc + k) la' (t.map (cv av)))) → W p l e R s m args below meth c H locs cells slots Q (F0 m pc la (.long (Int64.ofInt z) :: t.map (cv av))))
    (kk : Go D b0 cA av L xs p l e R s m args below meth c M s0 Q x) : Go D b0 cA av L xs p l e R s m args below meth c M s0 Q (pc, ls, st, h) := by
  unfold mstL at hs
  split at hs
  · rename_i z t
    split at hs
    · rename_i hl
      cases hs
      intro H locs cells slots la S
      refine hw z t hl.1 H locs cells slots la _ _ S.1.2 (by rw [← S.1.1]; exact hl.2) (fun la' h' => ?_)
      have hz : okv (.inr (.inl z)) := S.2.2.1 _ (by simp)
      exact kk H locs cells slots la' ⟨S.1.store2 hav hl.2 h', (S.2.1.set i (fun w hw => by cases hw; exact hz)).set (i + 1) (fun w hw => by cases hw), fun w hm => S.2.2.1 w (by simp [hm]), S.2.2.2⟩
    · cases hs
  · cases hs
theorem s_inc (hav : AvOk b0 av) {i : Nat} {n : Int} {st : List PV} {x : Nx} (hs : minc len pc ls st h i n = some x) (hw : ∀ z : Int, len = 3 ∨ len = 6 → ∀ (H : Heap) (locs : List Loc) (cells slots : Nat) (la : Array Slot) (lv : List (Nat × Value)) (nL k : Nat), lv_has la nL lv → lv[k]? = some (i, .int (Int32.ofInt z)) → i < nL → (∀ la' : Array Slot, lv_has la' nL ((i, Value.int (Int32.ofInt (w32 (z + n)))) :: lv.filter (fun q => !(q.1 == i) && !(q.1 + 1 == i && q.2.category == 2))) → W p l e R s m args below meth c H locs cells slots Q (F0 m (pc + len) la' (st.map (cv av)))) → W p l e R s m args below meth c H locs cells slots Q (F0 m pc la (st.map (cv av))))
    (kk : Go D b0 cA av L xs p l e R s m args below meth c M s0 Q x) : Go D b0 cA av L xs p l e R s m args below meth c M s0 Q (pc, ls, st, h) := by
  unfold minc at hs
  split at hs
  · rename_i z hz
    split at hs
    · rename_i hl
      cases hs
      intro H locs cells slots la S
      have hm : (i, Value.int (Int32.ofInt z)) ∈ lcl av ls := mem_lcl.mpr ⟨.inl z, hz, rfl, fun _ q => by cases q⟩
      obtain ⟨k, hk⟩ := List.mem_iff_getElem?.mp hm
      refine hw z hl H locs cells slots la _ _ k S.1.2 hk (by rw [← S.1.1]; exact (List.getElem?_eq_some_iff.mp hz).1) (fun la' h' => ?_)
      exact kk H locs cells slots la' ⟨S.1.store1 hav (v := .inl (w32 (z + n))) rfl h', S.2.1.set i (fun w hw => by cases hw; exact w32_in _), S.2.2.1, S.2.2.2⟩
    · cases hs
  · cases hs
end Sim
