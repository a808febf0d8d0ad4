theorem sfld9 : Cond.fieldLink RJ0 9 RJ0 "value" "[B" ∈ TG := (tg8 (List.mem_of_getElem? (i := 213) rfl) rfl)
theorem sfld15 : Cond.fieldLink RJ0 15 RJ0 "coder" "B" ∈ TG := (tg8 (List.mem_of_getElem? (i := 212) rfl) rfl)
theorem objI1 : Cond.instanceMethod objectInit ∈ TG := (tg1 (List.mem_of_getElem? (i := 30) rfl) rfl)
theorem objI2 : Cond.code objectInit ⟨#[0xb1]⟩ 1 none ∈ TG := (tg1 (List.mem_of_getElem? (i := 31) rfl) rfl)
theorem cpyI1 : Cond.native arraycopyName ∈ TG := (tg3 (List.mem_of_getElem? (i := 118) rfl) rfl)
theorem cpyI2 : Cond.static arraycopyName ∈ TG := (tg3 (List.mem_of_getElem? (i := 117) rfl) rfl)
theorem cpyI3 : Cond.initialized "java/lang/System" ∈ TG := (tg1 (List.mem_of_getElem? (i := 17) rfl) rfl)
theorem arrC_byte : Cond.arrayClass .byte ∈ TG := (tg1 (List.mem_of_getElem? (i := 117) rfl) rfl)
theorem arrC_int : Cond.arrayClass .int ∈ TG := (tg1 (List.mem_of_getElem? (i := 118) rfl) rfl)
theorem arrC_long : Cond.arrayClass .long ∈ TG := (tg2 (List.mem_of_getElem? (i := 28) rfl) rfl)
theorem arrC_boolean : Cond.arrayClass .boolean ∈ TG := (tg6 (List.mem_of_getElem? (i := 190) rfl) rfl)
section Sim5
variable {D : va_G} {b0 : Nat} {cA : Nat → ClassId} {av : Nat → Value} {adK adV : Nat → Nat} {L : Nat} {xs : Nat → Int32} {p : Program} {l : Launch} {e : Env} {R : Room} {s : State} {m : MethodId} {args : Array Value} {below : List Frame} {meth : Method} {c : Code} {M : Me} {Q : State → Prop} {s0 pc len nL : Nat} {ls : List (Option PV)} {st t : List PV} {h : Hp} {H : Heap} {locs : List Loc} {cells slots : Nat} {la : Array Slot} {x : Nx}
/-- what is known stays known: in a warmer machine, with the old cells as they were -/
theorem Cx.move {U : State} (C : Cx D b0 cA av adK adV L xs s) (hW : s.WarmedH U.vm) (hk : ∀ a : Nat, a < s.heap.size → ¬ b0 ≤ a → U.heap[a]? = s.heap[a]?) (hz : s.heap.size ≤ U.heap.size) : Cx D b0 cA av adK adV L xs U := by
  obtain ⟨c1, c2, c3, ⟨t, c4, c5, c6⟩, c7, c8, ⟨b, c9, c10, c11, c12⟩, c13, c14, c15, c16, c17⟩ := C
  refine ⟨va_K.moved hW.alike c1, (c2.moved hW.alike).kept hk, fun q hq => (c3 q hq).warm hW, ⟨t, c4, (c5.moved hW.alike).kept hk, (c6.moved hW.alike).kept hk⟩, (c7.moved hW.alike).kept hk, (c8.moved hW.alike).kept hk, ⟨b, c9, (c10.moved hW.alike).kept (hk b c11 (by omega)), by omega, c12⟩, by omega, ?_, va_AO.moved hW.alike c15, va_AO.moved hW.alike c16, va_AO.moved hW.alike c17⟩
  intro w hw
  have h1 := c14 w hw
  have hn : (∃ a i x y, w = .methodLinkNest a i x y) ∨ ∃ a i b' n d' y, w = .fieldLinkNest a i b' n d' y := by
    simp only [NW, List.mem_cons, List.not_mem_nil, or_false] at hw
    rcases hw with h | h | h | h | h | h | h | h | h | h | h | h | h | h | h | h | h | h | h | h <;> subst h <;> first | exact Or.inl ⟨_, _, _, _, rfl⟩ | exact Or.inr ⟨_, _, _, _, _, _, rfl⟩
  rcases hn with ⟨a, i, x', y, rfl⟩ | ⟨a, i, b', n, d', y, rfl⟩
  · exact va_Nw.warmM hW h1
  · exact va_Nw.warmF hW h1
/-- and in a state of the same tables and cells -/
theorem Cx.same {U : State} (C : Cx D b0 cA av adK adV L xs s) (hv : U.vm = s.vm) (hh : U.heap = s.heap) : Cx D b0 cA av adK adV L xs U := by
  have hal : s.vm.Alike U.vm := by rw [hv]; exact Vm.Alike.refl s.vm
  obtain ⟨c1, c2, c3, ⟨t, c4, c5, c6⟩, c7, c8, ⟨b, c9, c10, c11, c12⟩, c13, c14, c15, c16, c17⟩ := C
  have hk : ∀ a : Nat, a < s.heap.size → ¬ b0 ≤ a → U.heap[a]? = s.heap[a]? := fun a _ _ => by rw [hh]
  refine ⟨va_K.moved hal c1, (c2.moved hal).kept hk, fun q hq => (c3 q hq).same hv, ⟨t, c4, (c5.moved hal).kept hk, (c6.moved hal).kept hk⟩, (c7.moved hal).kept hk, (c8.moved hal).kept hk, ⟨b, c9, (c10.moved hal).kept (by rw [hh]), by rw [hh]; exact c11, c12⟩, by rw [hh]; exact c13, ?_, va_AO.moved hal c15, va_AO.moved hal c16, va_AO.moved hal c17⟩
  intro w hw
  refine va_Nw.same ?_ hv.symm (c14 w hw)
  simp only [NW, List.mem_cons, List.not_mem_nil, or_false] at hw
  rcases hw with h | h | h | h | h | h | h | h | h | h | h | h | h | h | h | h | h | h | h | h <;> subst h <;> rfl
theorem s_ldc {k : Nat} (F : Fx D b0 cA av adK adV L xs p R s m args meth c M) (hd : decode M.2.2.1 pc = .ok (.ldc k, len)) (hs : stp (tbl M.1) (.ldc k) len pc ls st h = some x)
    (kk : Go D b0 cA av L xs p l e R s m args below meth c M s0 Q x) : Go D b0 cA av L xs p l e R s m args below meth c M s0 Q (pc, ls, st, h) := by
  obtain ⟨F1, F2, F3, F4, F5, F6, F7, F8, F9, F10, F11, F12⟩ := F
  simp only [stp] at hs
  split at hs
  · rename_i z hl
    rcases cst_ok hl with ⟨z', e1, e2, e3⟩ | ⟨z', e1, -, -⟩ | ⟨j, tx, e1, -, -⟩
    · cases e1
      refine s_cst hs e2 (fun hlen H locs cells slots la w => ?_) kk
      subst hlen
      exact lv_ldc F1 F2 F5 (F7 _ e3) hd w
    · cases e1
    · cases e1
  · rename_i a hl
    rcases cst_ok hl with ⟨z', e1, -, -⟩ | ⟨z', e1, -, -⟩ | ⟨j, tx, e1, e2, e3⟩
    · cases e1
    · cases e1
    · cases e1
      refine s_cst hs trivial (fun hlen H locs cells slots la w => ?_) kk
      subst hlen
      replace w : W p l e R s m args below meth c H locs cells slots Q (F0 m (pc + 2) la (av (1 + j) :: st.map (cv av))) := w
      rw [F10.2.1 j e2] at w
      have hz : vk_R (cn M.1) k tx (adK j) s := F9.2.2.1 (M.1, k, tx, j) e3
      exact va_ldcS (own := cn M.1) (tx := tx) (index := k) (q := adK j) F1 F2 F5 hz hd w
  · cases hs
theorem s_ldcw {k : Nat} (F : Fx D b0 cA av adK adV L xs p R s m args meth c M) (hd : decode M.2.2.1 pc = .ok (.ldc_w k, len)) (hs : stp (tbl M.1) (.ldc_w k) len pc ls st h = some x)
    (kk : Go D b0 cA av L xs p l e R s m args below meth c M s0 Q x) : Go D b0 cA av L xs p l e R s m args below meth c M s0 Q (pc, ls, st, h) := by
  obtain ⟨F1, F2, F3, F4, F5, F6, F7, F8, F9, F10, F11, F12⟩ := F
  simp only [stp] at hs
  split at hs
  · rename_i z hl
    rcases cst_ok hl with ⟨z', e1, e2, e3⟩ | ⟨z', e1, -, -⟩ | ⟨j, tx, e1, -, -⟩
    · cases e1
      refine s_cst hs e2 (fun hlen H locs cells slots la w => ?_) kk
      subst hlen
      exact lv_ldcw F1 F2 F5 (F7 _ e3) hd w
    · cases e1
    · cases e1
  · cases hs
theorem s_ldc2 {k : Nat} (F : Fx D b0 cA av adK adV L xs p R s m args meth c M) (hd : decode M.2.2.1 pc = .ok (.ldc2_w k, len)) (hs : stp (tbl M.1) (.ldc2_w k) len pc ls st h = some x)
    (kk : Go D b0 cA av L xs p l e R s m args below meth c M s0 Q x) : Go D b0 cA av L xs p l e R s m args below meth c M s0 Q (pc, ls, st, h) := by
  obtain ⟨F1, F2, F3, F4, F5, F6, F7, F8, F9, F10, F11, F12⟩ := F
  simp only [stp] at hs
  split at hs
  · rename_i z hl
    rcases cst_ok hl with ⟨z', e1, -, -⟩ | ⟨z', e1, e2, e3⟩ | ⟨j, tx, e1, -, -⟩
    · cases e1
    · cases e1
      refine s_cst hs e2 (fun hlen H locs cells slots la w => ?_) kk
      subst hlen
      exact lv_ldc2 F1 F2 F5 (F7 _ e3) hd w
    · cases e1
  · cases hs
theorem s_gets {k : Nat} (F : Fx D b0 cA av adK adV L xs p R s m args meth c M) (hd : decode M.2.2.1 pc = .ok (.getstatic k, len)) (hs : stp (tbl M.1) (.getstatic k) len pc ls st h = some x)
    (kk : Go D b0 cA av L xs p l e R s m args below meth c M s0 Q x) : Go D b0 cA av L xs p l e R s m args below meth c M s0 Q (pc, ls, st, h) := by
  obtain ⟨F1, F2, F3, F4, F5, F6, F7, F8, F9, F10, F11, F12⟩ := F
  simp only [stp] at hs
  split at hs
  · rename_i v hl
    unfold mcst at hs
    split at hs
    · rename_i hlen
      subst hlen
      cases hs
      intro H locs cells slots la S
      have hv : okv v := by
        rcases sta_ok hl with ⟨rfl, -⟩ | ⟨rfl, -⟩ | ⟨rfl, -⟩
        · trivial
        · show in32 1
          unfold in32; omega
        · trivial
      have K := kk H locs cells slots la (S.push (v := v) (t := st) hv (fun w hw => hw))
      rcases sta_ok hl with ⟨rfl, host, e1⟩ | ⟨rfl, e1⟩ | ⟨rfl, e1⟩
      · obtain ⟨t0, e2, hZ, -⟩ := F9.2.2.2.1
        replace K : W p l e R s m args below meth c H locs cells slots Q (F0 m (pc + 3) la (av 90 :: st.map (cv av))) := K
        rw [e2] at K
        exact va_getsN F1 F2 hZ S.2.2.2.2.2.2.1 F5 (va_Nw.use rfl (F9.2.2.2.2.2.2.2.2.1 _ e1)) (fun _ q => q) hd K
      · exact va_gets F1 F2 F9.2.2.2.2.1 S.2.2.2.2.2.2.1 F5 (F7 _ e1) (fun _ q => q) hd K
      · exact va_gets F1 F2 F9.2.2.2.2.2.1 S.2.2.2.2.2.2.1 F5 (F7 _ e1) (fun _ q => q) hd K
    · cases hs
  · cases hs
theorem s_getS {k : Nat} (F : Fx D b0 cA av adK adV L xs p R s m args meth c M) (h14 : M.1 = 14) (hd : decode M.2.2.1 pc = .ok (.getfield k, len)) (hs : stp (tbl M.1) (.getfield k) len pc ls st h = some x)
    (kk : Go D b0 cA av L xs p l e R s m args below meth c M s0 Q x) : Go D b0 cA av L xs p l e R s m args below meth c M s0 Q (pc, ls, st, h) := by
  obtain ⟨F1, F2, F3, F4, F5, F6, F7, F8, F9, F10, F11, F12⟩ := F
  rw [h14] at hs F5
  simp only [stp] at hs
  split at hs
  · rename_i e0 hl
    have hm : (k, e0) ∈ tb14.1 := lk_mem hl
    simp only [tb14, List.mem_cons, List.not_mem_nil, or_false, Prod.mk.injEq] at hm
    unfold mget at hs
    split at hs
    · rename_i a t
      split at hs
      · rename_i hl2
        obtain ⟨rfl, hk⟩ := hl2
        have hk14 : (hK h a).1 = 14 := by rcases hm with ⟨-, rfl⟩ | ⟨-, rfl⟩ <;> exact hk
        cases hs
        intro H locs cells slots la S
        dsimp only at S
        have ha : 1 ≤ a ∧ a ≤ 26 := by
          rcases Nat.lt_or_ge a 200 with q | q
          · have hkd := S.2.2.2.2.2.1.1 a q
            rw [hkd] at hk14
            by_cases h1 : 1 ≤ a ∧ a ≤ 26
            · exact h1
            · exfalso
              unfold okd at hk14
              rw [if_neg h1] at hk14
              split at hk14
              · cases hk14
              · split at hk14
                · cases hk14
                · split at hk14 <;> cases hk14
          · rcases Nat.lt_or_ge a (200 + hN h) with q2 | q2
            · have := S.2.2.2.2.2.2.2.2.2 a q q2
              omega
            · have := S.2.2.2.2.1.2.2.1 a q2
              omega
        obtain ⟨j, rfl⟩ : ∃ j, a = 1 + j := ⟨a - 1, by omega⟩
        have hj : j < 26 := by omega
        have K := kk H locs cells slots la (S.push (v := mvl h e0.2.2.1 (1 + j) e0.2.1) (t := t) (okv_mvl S.2.2.2.2.1 _ _ _) (fun w hw => by simp [hw]))
        show W p l e R s m args below meth c H locs cells slots Q (F0 m pc la (av (1 + j) :: t.map (cv av)))
        rw [F10.2.1 j hj]
        rcases hm with ⟨rfl, rfl⟩ | ⟨rfl, rfl⟩
        · replace K : W p l e R s m args below meth c H locs cells slots Q (F0 m (pc + 3) la (av (hR h (1 + j) 0) :: t.map (cv av))) := K
          rw [(S.2.2.2.2.2.1.2.1 j hj).1, F10.2.2 j hj] at K
          exact va_getX (N := 26) (i := j) (v := fun i => .ref (adV i)) (ad := adK) F1 F2 (fun i hi => (F9.2.1 i hi).2.2.1) hj S.2.2.2.2.2.2.1 F5 (F7 (.fieldLink RJ0 9 RJ0 "value" "[B") sfld9) (fun _ q => q) hd K
        · replace K : W p l e R s m args below meth c H locs cells slots Q (F0 m (pc + 3) la (.int (Int32.ofInt (hI h (1 + j) 1)) :: t.map (cv av))) := K
          rw [(S.2.2.2.2.2.1.2.1 j hj).2.1] at K
          exact va_getX (N := 26) (i := j) (v := fun i => .int 0) (ad := adK) F1 F2 (fun i hi => (F9.2.1 i hi).2.1) hj S.2.2.2.2.2.2.1 F5 (F7 (.fieldLink RJ0 15 RJ0 "coder" "B") sfld15) (fun _ q => q) hd K
      · cases hs
    · cases hs
  · cases hs
theorem sum_okr {b0 : Nat} {av : Nat → Value} (hav : AvOk b0 av) {t : List PV} (hr : okr t = true) : ((t.map (cv av)).map fun v => v.category).sum ≤ 8 := by
  have h2 : ∀ l : List PV, ((l.map (cv av)).map fun v => v.category).sum ≤ 2 * l.length := by
    intro l
    induction l with
    | nil => simp
    | cons v l ih =>
      simp only [List.map_cons, List.sum_cons, List.length_cons]
      have := lv_cat (cv av v)
      omega
  have h1 : ∀ l : List PV, l.all (fun v => match v with
      | .inr (.inl _) => false
      | _ => true) = true → ((l.map (cv av)).map fun v => v.category).sum ≤ l.length := by
    intro l hl
    induction l with
    | nil => simp
    | cons v l ih =>
      simp only [List.all_cons, Bool.and_eq_true] at hl
      simp only [List.map_cons, List.sum_cons, List.length_cons]
      have h3 := ih hl.2
      have h4 : (cv av v).category = 1 := by
        rw [cv_cat hav]
        match v, hl.1 with
        | .inl z, _ => rfl
        | .inr (.inr a), _ => rfl
      omega
  unfold okr at hr
  simp only [Bool.or_eq_true, Bool.and_eq_true, decide_eq_true_eq] at hr
  rcases hr with hr | ⟨hr, ha⟩
  · have := h2 t
    omega
  · have := h1 t ha
    omega
theorem s_obj {k n : Nat} {M' : Me} (F : Fx D b0 cA av adK adV L xs p R s m args meth c M) (hd : decode M.2.2.1 pc = .ok (.invokespecial k, len)) (hl : lk (tbl M.1).2.1 k = some (8, n, M')) (hs : mobj len pc ls st h = some x)
    (kk : Go D b0 cA av L xs p l e R s m args below meth c M s0 Q x) : Go D b0 cA av L xs p l e R s m args below meth c M s0 Q (pc, ls, st, h) := by
  obtain ⟨F1, F2, F3, F4, F5, F6, F7, F8, F9, F10, F11, F12⟩ := F
  have hlink : Cond.methodLink (cn M.1) k objectInit ∈ TG := by
    rcases cal_ok hl with ⟨-, q⟩ | ⟨q, -⟩ | ⟨-, q⟩
    · exact q
    · cases q
    · rcases q with ⟨q, -⟩ | ⟨q, -⟩ | ⟨q, -⟩ | ⟨q, -⟩ | ⟨q, -⟩ | ⟨q, -⟩ <;> cases q
  unfold mobj at hs
  split at hs
  · rename_i a t
    split at hs
    · rename_i hl
      obtain ⟨rfl, ha, hr⟩ := hl
      cases hs
      intro H locs cells slots la S
      dsimp only at S
      have K := kk H locs cells slots la ⟨S.1, S.2.1, fun w hw => S.2.2.1 w (by simp [hw]), S.2.2.2⟩
      show W p l e R s m args below meth c H locs cells slots Q (F0 m pc la (av a :: t.map (cv av)))
      rw [F10.1.2.1 a ha]
      have h8 := sum_okr F10.1 hr
      exact W.objInit F1 F2 F5 (F7 _ hlink) (F7 _ objI1) (F7 _ objI2) (g := F0 m pc la (.ref (b0 + (a - 200)) :: t.map (cv av))) rfl (by rw [F4]; exact S.1.2.1) rfl hd F11 (by show 2 * 0 + _ + 12 ≤ R.locals; omega) K
    · cases hs
  · cases hs
theorem s_cpy {k n : Nat} {M' : Me} (F : Fx D b0 cA av adK adV L xs p R s m args meth c M) (hd : decode M.2.2.1 pc = .ok (.invokestatic k, len)) (hl : lk (tbl M.1).2.1 k = some (9, n, M')) (hs : mcpy len pc ls st h = some x)
    (kk : Go D b0 cA av L xs p l e R s m args below meth c M s0 Q x) : Go D b0 cA av L xs p l e R s m args below meth c M s0 Q (pc, ls, st, h) := by
  obtain ⟨F1, F2, F3, F4, F5, F6, F7, F8, F9, F10, F11, F12⟩ := F
  have hlink : Cond.methodLink (cn M.1) k arraycopyName ∈ TG := by
    rcases cal_ok hl with ⟨q, -⟩ | ⟨-, q⟩ | ⟨-, q⟩
    · cases q
    · exact q
    · rcases q with ⟨q, -⟩ | ⟨q, -⟩ | ⟨q, -⟩ | ⟨q, -⟩ | ⟨q, -⟩ | ⟨q, -⟩ <;> cases q
  unfold mcpy at hs
  split at hs
  · rename_i n dp d sp s' t
    split at hs
    · rename_i hl
      obtain ⟨rfl, q1, q2, k1, k2, hn, hsp, hdp, b1, b2, hr⟩ := hl
      cases hs
      intro H locs cells slots la S
      dsimp only at S
      have in_n : in32 n := S.2.2.1 (.inl n) (by simp)
      have in_d : in32 dp := S.2.2.1 (.inl dp) (by simp)
      have in_s : in32 sp := S.2.2.1 (.inl sp) (by simp)
      have he1 := wsl_at (b0 := b0) (av := av) (cA := cA) q1 (S.rowAt q1 (by omega))
      rw [En_int k1 (by simp)] at he1
      have he2 := wsl_at (b0 := b0) (av := av) (cA := cA) q2 (S.rowAt q2 (by omega))
      rw [En_int k2 (by simp)] at he2
      show W p l e R s m args below meth c H locs cells slots Q (F0 m pc la (.int (Int32.ofInt n) :: .int (Int32.ofInt dp) :: av d :: .int (Int32.ofInt sp) :: av s' :: t.map (cv av)))
      rw [F10.1.2.1 d q2, F10.1.2.1 s' q1]
      have h8 := sum_okr F10.1 hr
      have hnw : nativeFrameWords "java/lang/System" "arraycopy" 5 ≤ 40 := by decide +kernel
      refine va_copyi (rest := t.map (cv av)) F1 F2 (by rw [F4]; exact S.1.2.1.symm) F5 (F7 _ hlink) (F7 _ cpyI1) (F7 _ cpyI2) (F7 _ cpyI3) F9.1 S.2.2.2.1 (wsl_D b0 av cA h) S.2.2.2.2.2.2.1 (s' - 200) (d - 200) 1 1 he1 he2 rfl rfl rfl (of32_nneg in_s hsp) (of32_nneg in_d hdp) (of32_nneg in_n hn) (by rw [of32_clamp in_s, of32_clamp in_n]; omega) (by rw [of32_clamp in_d, of32_clamp in_n]; omega) (fun _ _ => rfl) F11 (by omega) hd (fun H1 locs1 hP hD hS1 => ?_)
      rw [of32_clamp in_s, of32_clamp in_d, of32_clamp in_n] at hP
      have hE : En av cA (cpI h s' sp.toNat d dp.toNat n.toNat) d = .inl (cA 21, (hK h d).2, .inl (va_cpy (fun i => Int32.ofInt (hI h s' i)) (fun i => Int32.ofInt (hI h d i)) sp.toNat dp.toNat n.toNat)) := by
        rw [En_int (c := 21) (by rw [hK_cp]; exact k2) (by simp), hK_cp]
        congr 4
        funext i
        unfold va_cpy
        rw [hI_cp]
        by_cases hi : dp.toNat ≤ i ∧ i < dp.toNat + n.toNat
        · rw [if_pos ⟨rfl, hi⟩, if_pos hi]
        · rw [if_neg (fun q => hi q.2), if_neg hi]
      rw [wsl_set (h := h) (h' := cpI h s' sp.toNat d dp.toNat n.toNat) q2 rfl hE (fun b hb => En_cp hb)] at hP
      exact kk H1 locs1 cells slots la (S.stored (fun w hw => by simp [hw]) hP hS1 rfl rfl (fun _ => rfl) (okh_cp S.2.2.2.2.1) (OldEq_cp S.2.2.2.2.2.1 q2))
    · cases hs
  · cases hs
end Sim5
