/-! THE CLAIM OUT OF ONE WALK OF THE LAW'S BODY. Your part is whole_start (and what it stands on); all else here is the same for every law, but numbers. -/
def R_law : String := "DepthBoardLaw"
def lw_P (b : Addr) (xs : List Int32) (args : Array Value) (s : State) : Prop := args = #[.ref b] ∧ s.IntsAt b xs ∧ xs.length ≤ 3072 ∧ (Jvm.Cond.and given_1 narrow_1).before args s = true
def lw_Q (_ : Array Value) (s : State) (o : Outcome) (t : State) : Prop := o = .returned (some (.int 1)) ∧ Framed s o t [] room_1.cells room_1.slots
def lw_Z (below : List Frame) (a : Array Value) (s : State) : State → Prop := fun t => ∃ o, t.status = .running ∧ Ended t below o ∧ lw_Q a s o t
/-- the law's own end, with 1 on the stack, nothing written that was there before, its room as the claim has it -/
theorem lw_ret {p : Program} {l : Launch} {e : Env} {s : State} {m : MethodId} {below : List Frame} {meth : Method} {c : Code} {b : Nat} (hx : p.tables.exec = Jvm.exec) (hb : c.code = code) (hr : meth.sig.returnType = ret) (hlocks : meth.locks = false) {pc : Nat} {H : Heap} {ls : Array Slot} (hdg : decode code pc = .ok (.ireturn, 1)) : W p l e room_1 s m #[Value.ref b] below meth c H [] room_1.cells room_1.slots (lw_Z below #[Value.ref b] s) (F0 m pc ls [.int 1]) := by
  intro T hT X
  obtain ⟨fs, hret, hrun, hended, hW, hframe⟩ := X.leave (v := some (.int 1)) (hlocks := hlocks) (fun h => by rw [hr] at h; cases h)
  have hmeth' : T.vm.method? m = some meth := X.method'
  refine ⟨T.setFrames fs, ?_, .returned (some (.int 1)), hrun, hended, rfl, ⟨_, rfl⟩, hW, hframe⟩
  jvm_step X.here [X.here.top, hx, hb, hdg, hmeth', hr, ret, narrow_b1]
  (try refine ⟨rfl, ?_⟩); (try refine ⟨rfl, ?_⟩)
  first | (intro acts; rw [hret _ acts rfl rfl rfl]) | rw [hret _ _ rfl rfl rfl]
  exact Steps.refl _
/-- what holds at the law's entry: the machine, the code, the tables' words (any of lw_tbl by 'hts w (by decide +kernel)'), the script of L ints xs at the cell b, what the Statement gives of the start (any of its parts by flat_of_before) -/
def lw_At (p : Program) (s : State) (m : MethodId) (meth : Method) (c : Code) (b L : Nat) (xs : Nat → Int32) : Prop :=
  p.tables.exec = Jvm.exec ∧ c.code = code ∧ meth.sig.returnType = ret ∧ c.maxLocals = 4 ∧ s.vm.findClass R_law = some m.cls ∧ (∀ w ∈ lw_tbl, w.before #[Value.ref b] s = true) ∧ va_X b L xs s s.heap ∧ b < s.heap.size ∧ meth.locks = false ∧ (Jvm.Cond.and given_1 narrow_1).before #[Value.ref b] s = true
theorem W_conseq {p : Program} {l : Launch} {e : Env} {R : Room} {s : State} {m : MethodId} {args : Array Value} {below : List Frame} {meth : Method} {c : Code} {H : Heap} {locs : List Loc} {cells slots : Nat} {Q Q' : State → Prop} {g : JFrame} (hq : ∀ t, Q t → Q' t) (w : W p l e R s m args below meth c H locs cells slots Q g) : W p l e R s m args below meth c H locs cells slots Q' g := by
  intro T hT X
  obtain ⟨t, a, b⟩ := w T hT X
  exact ⟨t, a, hq t b⟩
theorem sbn_weaken {s t : State} {L0 : List Loc} {k n k' n' : Nat} (h : s.sameButNew t L0 k n) (hL : ∀ q ∈ L0, s.heap.size ≤ q.base) (hk : k ≤ k') (hn : n ≤ n') : s.sameButNew t [] k' n' := by
  obtain ⟨h1, h2, h3, h4, h5, h6⟩ := h
  refine ⟨h1, h2, by omega, h4, by omega, fun a cell hc => ?_⟩
  obtain ⟨c', x1, x2, x3, x4⟩ := h6 a cell hc
  refine ⟨c', x1, x2, x3, fun i _ => x4 i (fun hm => ?_)⟩
  have := hL _ hm
  have h7 := (Array.getElem?_eq_some_iff.mp hc).1
  simp only at this
  omega
def avL (b0 : Nat) (adK adV : Nat → Nat) (t0 b : Nat) (vs : Value) (a : Nat) : Value := if a = 0 then .null else if 200 ≤ a then .ref (b0 + (a - 200)) else if 1 ≤ a ∧ a ≤ 26 then .ref (adK (a - 1)) else if 101 ≤ a ∧ a ≤ 126 then .ref (adV (a - 101)) else if a = 90 then .ref t0 else if a = 91 then .ref b else if a = 95 then vs else .null
theorem avL_ok {b0 : Nat} {adK adV : Nat → Nat} {t0 b : Nat} {vs : Value} (hvs : vs = .null ∨ ∃ q, vs = .ref q) : Av b0 (avL b0 adK adV t0 b vs) adK adV := by
  refine ⟨⟨rfl, fun a ha => ?_, fun a => ?_⟩, fun j hj => ?_, fun j hj => ?_⟩
  · unfold avL; rw [if_neg (by omega), if_pos ha]
  · unfold avL
    split
    · exact Or.inl rfl
    · split
      · exact Or.inr ⟨_, rfl⟩
      · split
        · exact Or.inr ⟨_, rfl⟩
        · split
          · exact Or.inr ⟨_, rfl⟩
          · split
            · exact Or.inr ⟨_, rfl⟩
            · split
              · exact Or.inr ⟨_, rfl⟩
              · split
                · exact hvs
                · exact Or.inl rfl
  · unfold avL; rw [if_neg (by omega), if_neg (by omega), if_pos (by omega), show 1 + j - 1 = j by omega]
  · unfold avL; rw [if_neg (by omega), if_neg (by omega), if_neg (by omega), if_pos (by omega), show 101 + j - 101 = j by omega]
set_option maxHeartbeats 4000000 in
set_option maxRecDepth 100000 in
/-- the law's walk, out of the pure machine's run of it -/
theorem whole_from {p : Program} {e : Env} {s : State} {m : MethodId} {below : List Frame} {meth : Method} {c : Code} (l : Launch) {b L : Nat} {xs : Nat → Int32} (hL : L ≤ 3072) (C0 : lw_At p s m meth c b L xs) (hp : ∃ (n : Nat) (h' : Hp), ex n 1000 mL_law 0 [some (.inr (.inr 91)), none, none, none] [] (h00 L xs) = some (some (.inl 1), h') ∧ hN h' ≤ 590000 ∧ hS h' ≤ 4000000) : W p l e room_1 s m #[Value.ref b] below meth c s.heap [] 0 0 (lw_Z below #[Value.ref b] s) (entryFrame m ([Value.ref b] : List Value).toArray 4) := by
  obtain ⟨n, h', hex, hn1, hn2⟩ := hp
  have rm1 : 590000 ≤ room_1.cells := by decide
  have rm2 : 4000000 ≤ room_1.slots := by decide
  obtain ⟨hx, hb, hr, hml, hown, hts, hX, hbl, hlocks, hgv⟩ := C0
  have htsG : ∀ w ∈ TG, w.before #[Value.ref b] s = true := fun w hw => hts w (List.mem_filter.mp hw).1
  have hs := flat_of_before _ hgv
  have hA : ∀ a : Nat, a < s.heap.size → ¬ (fun q => s.heap.size ≤ q) a := fun a h => Nat.not_le.mpr h
  obtain ⟨adK, adV, hstr, htm⟩ := str_known hs
  obtain ⟨dC, dI, hKn⟩ := cls_known htsG
  obtain ⟨c20, k20⟩ := arr_known (ty := .byte) (fun C h => by cases h) (htsG _ arrC_byte)
  obtain ⟨c21, k21⟩ := arr_known (ty := .int) (fun C h => by cases h) (htsG _ arrC_int)
  obtain ⟨c22, k22⟩ := arr_known (ty := .long) (fun C h => by cases h) (htsG _ arrC_long)
  obtain ⟨c23, k23⟩ := arr_known (ty := .boolean) (fun C h => by cases h) (htsG _ arrC_boolean)
  have o2 : va_AO RX2 s := va_AO.of (hts _ ao2)
  have o8 : va_AO RX8 s := va_AO.of (hts _ ao8)
  have o10 : va_AO RX10 s := va_AO.of (hts _ ao10)
  obtain ⟨c24, k24⟩ := arr_over o2
  obtain ⟨c25, k25⟩ := arr_over o8
  obtain ⟨c26, k26⟩ := arr_over o10
  obtain ⟨t0, ht0, hT0⟩ := va_Tof (tm := .static "DepthBoard" "NO_LAW" "[I") (ty := .int) (N := 0) (f := fun _ => .null) (A := fun q => s.heap.size ≤ q) (args := #[Value.ref b]) (s := s) (by decide) (hs _ (by decide +kernel)) (va_eqt (hs _ (by decide +kernel))) (fun j hj => absurd hj (by omega)) hA
  have hZ0 := va_Zof (A := fun q => s.heap.size ≤ q) (hts _ ls_nolaw) (hts _ in_db) ht0 hA
  have hZ1 := va_Zof (A := fun q => s.heap.size ≤ q) (hts _ ls_comp) (hts _ in_str) (va_eqi (z := 1) (hs _ (by decide +kernel))) hA
  have hZ2 : ∃ vs, va_Z RJ3 "SIOOBE_FORMATTER" "Ljava/util/function/BiFunction;" vs (fun q => s.heap.size ≤ q) s s.heap ∧ (vs = .null ∨ ∃ q, vs = .ref q) := by
    rcases va_Zqof (A := fun q => s.heap.size ≤ q) (hts _ ls_sio) (hts _ in_pre) (hs _ (by decide +kernel)) hA with h | ⟨q, h⟩
    · exact ⟨_, h, Or.inl rfl⟩
    · exact ⟨_, h, Or.inr ⟨q, rfl⟩⟩
  obtain ⟨vs, hZ2, hvs⟩ := hZ2
  have hav := avL_ok (b0 := s.heap.size) (adK := adK) (adV := adV) (t0 := t0) (b := b) hvs
  have hcx : Cx (dC, dI) s.heap.size (fun k => if k = 20 then c20 else if k = 21 then c21 else if k = 22 then c22 else if k = 23 then c23 else if k = 24 then c24 else if k = 25 then c25 else c26) (avL s.heap.size adK adV t0 b vs) adK adV L xs s := by
    refine ⟨⟨hKn, fun k q hq => ?_⟩, hstr, fun q hq => ?_, ⟨t0, rfl, hZ0, hT0⟩, hZ1, hZ2, ⟨b, rfl, hX, hbl, hbl⟩, Nat.le_refl _, fun w hw => va_Nw.of (nw_w w hw).2 (hts _ (nw_w w hw).1), o2, o8, o10⟩
    · match k, hq with
      | 0, hq => cases hq; exact k20
      | 1, hq => cases hq; exact k21
      | 2, hq => cases hq; exact k22
      | 3, hq => cases hq; exact k23
      | 4, hq => cases hq; exact k24
      | 5, hq => cases hq; exact k25
      | 6, hq => cases hq; exact k26
      | k + 7, hq => simp [tyl] at hq
    · have ht := str_t q hq
      have h2 := htm q.2.2.2 ht.2
      rw [ht.1] at h2
      refine vk_R.of (A := #[Value.ref b]) (hts _ (str_w q hq)) h2
  have hF : Fx (dC, dI) s.heap.size (fun k => if k = 20 then c20 else if k = 21 then c21 else if k = 22 then c22 else if k = 23 then c23 else if k = 24 then c24 else if k = 25 then c25 else c26) (avL s.heap.size adK adV t0 b vs) adK adV L xs p room_1 s m #[Value.ref b] meth c mL_law := ⟨hx, hb, hr, hml, hown, fun h => absurd h (by decide), htsG, hlocks, hcx, hav, by decide, by decide⟩
  have G := sim (D := (dC, dI)) (b0 := s.heap.size) (cA := fun k => if k = 20 then c20 else if k = 21 then c21 else if k = 22 then c22 else if k = 23 then c23 else if k = 24 then c24 else if k = 25 then c25 else c26) (av := avL s.heap.size adK adV t0 b vs) (adK := adK) (adV := adV) (L := L) (xs := xs) (l := l) (by omega) n 1000 mL_law 0 _ _ _ _ _ hex (fun h => absurd h (by decide)) p e room_1 s m #[Value.ref b] below meth c 0 (hN h') (hS h') hF (by decide) (by decide) (by show s.heap.size + hN h' ≤ s.heap.size + room_1.cells; omega) (by show hS h' ≤ 0 + room_1.slots; omega) rfl rfl
  rw [lg_entry_eq]
  refine W_conseq ?_ (G s.heap [] 0 0 _ ⟨ent_LR (as := [.inr (.inr 91)]) (n := 4) hav.1 (by decide), ?_, fun v hv => (by cases hv), fun k q hq => (by simp [wsl, h00, hN] at hq), h00_ok (by omega), h00_old, va_S.rf, rfl, rfl, fun a h1 h2 => ?_⟩)
  · rintro t ⟨o, q1, q2, ⟨q3, -⟩, L0, ⟨f1, f2, f3⟩, f4⟩
    exact ⟨o, q1, q2, q3, f1, f2, sbn_weaken f3 f4 (by omega) (by omega)⟩
  · exact ent_ok (as := [.inr (.inr 91)]) (n := 4) (fun v hv => by rcases List.mem_singleton.mp hv with rfl; trivial)
  · exfalso
    have : a < 200 + 0 := h2
    omega
