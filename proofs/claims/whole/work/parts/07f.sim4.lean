/-- what the words say of a class that is made -/
def NF (own idx ci n : Nat) : Prop := ∃ (C : String) (T : u_T) (ty0 : Nat → FieldType), vwCl[ci]? = some (C, T, n) ∧ (wdl ci).length = n ∧ (∀ x ∈ u_ws C T n, x ∈ TG) ∧ (∀ j, j < n → parseFieldDescriptor (T j).2.2.1 = some (ty0 j)) ∧ (∀ j, j < n → ((wdl ci).getD j 0 = 0 ∧ (ty0 j = .int ∨ ty0 j = .boolean)) ∨ ((wdl ci).getD j 0 = 1 ∧ ty0 j = .long) ∨ ((wdl ci).getD j 0 = 2 ∧ ((∃ u, ty0 j = .object u) ∨ ∃ u, ty0 j = .array u))) ∧
  Cond.classLink (cn own) idx C ∈ TG ∧ Cond.instantiable C n ∈ TG ∧ Cond.initialized C ∈ TG
section Sim4
variable {D : va_G} {b0 : Nat} {cA : Nat → ClassId} {av : Nat → Value} {adK adV : Nat → Nat} {L : Nat} {xs : Nat → Int32} {p : Program} {l : Launch} {e : Env} {R : Room} {s : State} {m : MethodId} {args : Array Value} {below : List Frame} {meth : Method} {c : Code} {M : Me} {Q : State → Prop} {s0 pc len nL : Nat} {ls : List (Option PV)} {st t : List PV} {h : Hp} {H : Heap} {locs : List Loc} {cells slots : Nat} {la : Array Slot} {x : Nx} {g : JFrame}
theorem W_size (k : H.size ≤ s.heap.size + cells → W p l e R s m args below meth c H locs cells slots Q g) : W p l e R s m args below meth c H locs cells slots Q g := by
  intro T hT X
  refine k ?_ T hT X
  have h3 := X.same.2.2.1
  rw [← hT]
  exact h3
/-- where a new cell lies -/
theorem new_at {q : Nat} {E : va_E} {H1 : Heap} (hP : va_P D vwCl (wsl b0 av cA h ++ [(q, E)]) H1) (hD : va_D (fun q => b0 ≤ q) (wsl b0 av cA h ++ [(q, E)])) (hz : H1.size ≤ b0 + hN h + 1) : q = b0 + hN h := by
  have hlen : (wsl b0 av cA h).length = hN h := by simp [wsl]
  have e1 : (wsl b0 av cA h ++ [(q, E)])[hN h]? = some (q, E) := by
    rw [List.getElem?_append_right (by omega), hlen]; simp
  have h1 : q < H1.size := va_at.lt (hP _ _ e1)
  have h2 : b0 ≤ q := hD.2 _ _ e1
  by_cases hq : q < b0 + hN h
  · have e2 : (wsl b0 av cA h ++ [(q, E)])[q - b0]? = some (b0 + (q - b0), En av cA h (200 + (q - b0))) := by
      rw [List.getElem?_append_left (by omega)]
      have := wsl_at (b0 := b0) (av := av) (cA := cA) (h := h) (a := 200 + (q - b0)) (by omega) (by omega)
      rw [show 200 + (q - b0) - 200 = q - b0 by omega] at this
      exact this
    have := hD.1 _ _ _ _ e2 e1 (by show b0 + (q - b0) = q; omega)
    omega
  · omega
theorem St.made {h' : Hp} {H1 : Heap} {v : PV} {sl : Nat} (S : St D b0 cA av L xs s nL s0 ls st h H locs cells slots la) (hv : okv v) (ht : ∀ w ∈ t, w ∈ st) (hP : va_P D vwCl (wsl b0 av cA h') H1) (hS1 : va_S (fun q => b0 ≤ q) s.heap H1 locs) (hN' : hN h' = hN h + 1) (hS' : hS h' = hS h + sl) (hok : okh h') (hold : OldEq L xs h') (hK' : ∀ a, 200 ≤ a → a < 200 + hN h + 1 → (hK h' a).1 < 13 ∨ (20 ≤ (hK h' a).1 ∧ (hK h' a).1 ≤ 26)) : St D b0 cA av L xs s nL s0 ls (v :: t) h' H1 locs (cells + 1) (slots + sl) la := by
  refine ⟨S.1, S.2.1, fun w hw => ?_, hP, hok, hold, hS1, ?_, ?_, ?_⟩
  · rcases List.mem_cons.mp hw with rfl | hw
    · exact hv
    · exact S.2.2.1 w (ht w hw)
  · rw [hN']
    have := S.2.2.2.2.2.2.2.1
    omega
  · rw [hS']
    have := S.2.2.2.2.2.2.2.2.1
    omega
  · intro a h1 h2
    rw [hN'] at h2
    exact hK' a h1 (by omega)
theorem s_new {idx ci n : Nat} (F : Fx D b0 cA av adK adV L xs p R s m args meth c M) (hd : decode M.2.2.1 pc = .ok (.new idx, len)) (hf : NF M.1 idx ci n) (hs : mnew len pc ls st h ci n = some x) (hRc : b0 + hN x.2.2.2 ≤ s.heap.size + R.cells) (hRs : hS x.2.2.2 ≤ s0 + R.slots)
    (kk : Go D b0 cA av L xs p l e R s m args below meth c M s0 Q x) : Go D b0 cA av L xs p l e R s m args below meth c M s0 Q (pc, ls, st, h) := by
  obtain ⟨C, T, ty0, f1, f2, f3, f4, f5, f6, f7, f8⟩ := hf
  obtain ⟨F1, F2, F3, F4, F5, F6, F7, F8, F9, F10, F11, F12⟩ := F
  unfold mnew at hs
  split at hs
  · rename_i hl
    subst hl
    cases hs
    intro H locs cells slots la S
    dsimp only at S
    have hsz := S.2.2.2.2.2.2.2.1
    have hss := S.2.2.2.2.2.2.2.2.1
    rw [hN_nw] at hRc
    rw [hS_nw] at hRs
    have hci := vwCl_lt f1
    have hE : En av cA (nw h ci 0 n) (200 + hN h) = .inr (ci, obj av (nw h ci 0 n) ci (200 + hN h)) := En_obj (by rw [hK_nw, if_pos rfl]) (by omega)
    have hobj : ∀ j, j < n → defaultValue (ty0 j) = vp_V (obj av (nw h ci 0 n) ci (200 + hN h)) j := by
      intro j hj
      unfold vp_V
      rw [List.getD_eq_getElem?_getD, obj_get (by rw [f2]; exact hj) rfl]
      rcases f5 j hj with ⟨e1, e2 | e2⟩ | ⟨e1, e2⟩ | ⟨e1, ⟨u, e2⟩ | ⟨u, e2⟩⟩
      · rw [e1, e2]; simp [mvl, hI_nw, cv, defaultValue]
      · rw [e1, e2]; simp [mvl, hI_nw, cv, defaultValue]
      · rw [e1, e2]; simp [mvl, hJ_nw, cv, defaultValue]
      · rw [e1, e2]; simp [mvl, hR_nw, cv, defaultValue, F10.1.1]
      · rw [e1, e2]; simp [mvl, hR_nw, cv, defaultValue, F10.1.1]
    refine va_new (C := C) (T := T) (N := n) (ci := ci) (fs := obj av (nw h ci 0 n) ci (200 + hN h)) F1 F2 F7 f3 ty0 f4 F5 (F7 _ f6) (F7 _ f7) (F7 _ f8) F9.1 S.2.2.2.1 (wsl_D b0 av cA h) S.2.2.2.2.2.2.1 (fun q hq => Nat.le_trans F9.2.2.2.2.2.2.2.1 hq) f1 hobj (by omega) (by omega) hd (fun q H1 hP hD hS1 => ?_)
    refine W_size (fun hz => ?_)
    have hq := new_at hP hD (by omega)
    subst hq
    rw [wsl_push (h' := nw h ci 0 n) rfl hE (fun b hb => En_nw hb)] at hP
    have K := kk H1 locs (cells + 1) (slots + n) la (S.made (v := .inr (.inr (200 + hN h))) (sl := n) (t := st) trivial (fun w hw => hw) hP hS1 rfl rfl (okh_nw S.2.2.2.2.1 (by omega)) (OldEq_nw S.2.2.2.2.2.1) (fun a h1 h2 => ?_))
    · replace K : W p l e R s m args below meth c H1 locs (cells + 1) (slots + n) Q (F0 m (pc + 3) la (av (200 + hN h) :: st.map (cv av))) := K
      rw [F10.1.2.1 _ (by omega), show 200 + hN h - 200 = hN h by omega] at K
      exact K
    · rw [hK_nw]
      split
      · left; exact hci
      · exact S.2.2.2.2.2.2.2.2.2 a h1 (by omega)
  · cases hs
/-- a new row: what newarray and anewarray share -/
theorem made_row {c0 : Nat} {z : Int} {q : Nat} {cN : ClassId} {ty : FieldType} {a0 : vp_A} {H1 : Heap} {k : Nat} {hz0 : 0 ≤ z} {hz1 : z ≤ 100000} (hav : AvOk b0 av) (S : St D b0 cA av L xs s nL s0 ls (.inl z :: t) h H locs cells slots la) (hc : 20 ≤ c0 ∧ c0 ≤ 26) (hcN : cN = cA c0) (ha0 : En av cA (nw h c0 z.toNat z.toNat) (200 + hN h) = .inl (cA c0, a0)) (hP : va_P D vwCl (wsl b0 av cA h ++ [(q, .inl (cN, a0))]) H1) (hD : va_D (fun q => b0 ≤ q) (wsl b0 av cA h ++ [(q, .inl (cN, a0))])) (hS1 : va_S (fun q => b0 ≤ q) s.heap H1 locs)
    (kk : Go D b0 cA av L xs p l e R s m args below meth c M s0 Q (pc + k, ls, .inr (.inr (200 + hN h)) :: t, nw h c0 z.toNat z.toNat)) (hnL : nL = M.2.2.2.1) : W p l e R s m args below meth c H1 locs (cells + 1) (slots + z.toNat) Q (F0 m (pc + k) la (.ref q :: t.map (cv av))) := by
  subst hnL
  refine W_size (fun hz => ?_)
  have hsz := S.2.2.2.2.2.2.2.1
  have hq := new_at hP hD (by omega)
  subst hq
  rw [hcN, ← ha0, wsl_push (h' := nw h c0 z.toNat z.toNat) rfl rfl (fun b hb => En_nw hb)] at hP
  have K := kk H1 locs (cells + 1) (slots + z.toNat) la (S.made (v := .inr (.inr (200 + hN h))) (sl := z.toNat) (t := t) trivial (fun w hw => by simp [hw]) hP hS1 rfl rfl (okh_nw S.2.2.2.2.1 (by omega)) (OldEq_nw S.2.2.2.2.2.1) (fun a h1 h2 => ?_))
  · replace K : W p l e R s m args below meth c H1 locs (cells + 1) (slots + z.toNat) Q (F0 m (pc + k) la (av (200 + hN h) :: t.map (cv av))) := K
    rw [hav.2.1 _ (by omega), show 200 + hN h - 200 = hN h by omega] at K
    exact K
  · rw [hK_nw]
    split
    · right; exact hc
    · exact S.2.2.2.2.2.2.2.2.2 a h1 (by omega)
theorem tyl_at {k : Nat} {cN : ClassId} {ty : FieldType} (hK : va_K D vwCl (tyl cA) s) {c0 : Nat} (h0 : (tyl cA)[k]? = some (cA c0, ty)) (hK2 : va_K D vwCl (tyl cA ++ [(cN, ty)]) s) : cN = cA c0 := by
  have h1 := (hK.2 k _ h0).2
  have h2 := (hK2.2 7 (cN, ty) (by rw [List.getElem?_append_right (by simp [tyl])]; simp [tyl])).2
  cases ty with
  | object C =>
    obtain ⟨-, -, -, -, -, h1⟩ := h1
    obtain ⟨-, -, -, -, -, h2⟩ := h2
    exact Option.some.inj (h2.symm.trans h1)
  | _ => exact Option.some.inj (h2.symm.trans h1)
theorem En_nwI {c0 n : Nat} (hc : c0 = 20 ∨ c0 = 21 ∨ c0 = 23) : En av cA (nw h c0 n n) (200 + hN h) = .inl (cA c0, n, .inl fun _ => 0) := by
  rw [En_int (c := c0) (by rw [hK_nw, if_pos rfl]) hc, hK_nw, if_pos rfl]
  congr 4
  funext i
  rw [hI_nw, if_pos rfl]; rfl
theorem En_nwJ {n : Nat} : En av cA (nw h 22 n n) (200 + hN h) = .inl (cA 22, n, .inr (.inl fun _ => 0)) := by
  rw [En_long (by rw [hK_nw, if_pos rfl]), hK_nw, if_pos rfl]
  congr 5
  funext i
  rw [hJ_nw, if_pos rfl]; rfl
theorem En_nwR (hav : AvOk b0 av) {c0 n : Nat} (hc : c0 = 24 ∨ c0 = 25 ∨ c0 = 26) : En av cA (nw h c0 n n) (200 + hN h) = .inl (cA c0, n, .inr (.inr (.inr (.inr fun _ => none)))) := by
  rw [En_ref (c := c0) (by rw [hK_nw, if_pos rfl]) hc, hK_nw, if_pos rfl]
  congr 8
  funext i
  rw [hR_nw, if_pos rfl, hav.1]; rfl
theorem of32_nneg {z : Int} (hz : in32 z) (h0 : 0 ≤ z) : ¬ Int32.ofInt z < 0 := by
  rw [show (0 : Int32) = Int32.ofInt 0 from rfl, of32_lt hz in32_0]; omega
theorem s_nwa {at' : Jvm.ClassFile.ArrayType} (F : Fx D b0 cA av adK adV L xs p R s m args meth c M) (hd : decode M.2.2.1 pc = .ok (.newarray at', len)) (hw : Cond.arrayClass (newarray.typeOf at') ∈ TG) (h99 : nwaC at' ≠ 99) (hs : mnwa len 2 pc ls st h (nwaC at') = some x) (hRc : b0 + hN x.2.2.2 ≤ s.heap.size + R.cells) (hRs : hS x.2.2.2 ≤ s0 + R.slots)
    (kk : Go D b0 cA av L xs p l e R s m args below meth c M s0 Q x) : Go D b0 cA av L xs p l e R s m args below meth c M s0 Q (pc, ls, st, h) := by
  obtain ⟨F1, F2, F3, F4, F5, F6, F7, F8, F9, F10, F11, F12⟩ := F
  unfold mnwa at hs
  split at hs
  · rename_i z t
    split at hs
    · rename_i hl
      obtain ⟨rfl, hz0, hz1⟩ := hl
      cases hs
      intro H locs cells slots la S
      dsimp only at S
      have hsz := S.2.2.2.2.2.2.2.1
      have hss := S.2.2.2.2.2.2.2.2.1
      rw [hN_nw] at hRc
      rw [hS_nw] at hRs
      have hz : in32 z := S.2.2.1 (.inl z) (by simp)
      have hA : ∀ q, s.heap.size ≤ q → b0 ≤ q := fun q hq => Nat.le_trans F9.2.2.2.2.2.2.2.1 hq
      show W p l e R s m args below meth c H locs cells slots Q (F0 m pc la (.int (Int32.ofInt z) :: t.map (cv av)))
      cases at' with
      | byte =>
        refine va_newa (ty := .byte) (a0 := (z.toNat, .inl fun _ => 0)) F1 F2 (F7 _ hw) rfl F9.1 S.2.2.2.1 (wsl_D b0 av cA h) S.2.2.2.2.2.2.1 hA (fun _ => rfl) (of32_nneg hz hz0) (of32_clamp hz) (by simp only [componentBytes]; omega) (by omega) (by omega) hd (fun q cN H1 hK2 hP hD hS1 => ?_)
        exact made_row (c0 := 20) (ty := .byte) (hz0 := hz0) (hz1 := hz1) F10.1 S (by omega) (tyl_at (k := 0) F9.1 rfl hK2) (En_nwI (by simp)) hP hD hS1 kk rfl
      | int =>
        refine va_newa (ty := .int) (a0 := (z.toNat, .inl fun _ => 0)) F1 F2 (F7 _ hw) rfl F9.1 S.2.2.2.1 (wsl_D b0 av cA h) S.2.2.2.2.2.2.1 hA (fun _ => rfl) (of32_nneg hz hz0) (of32_clamp hz) (by simp only [componentBytes]; omega) (by omega) (by omega) hd (fun q cN H1 hK2 hP hD hS1 => ?_)
        exact made_row (c0 := 21) (ty := .int) (hz0 := hz0) (hz1 := hz1) F10.1 S (by omega) (tyl_at (k := 1) F9.1 rfl hK2) (En_nwI (by simp)) hP hD hS1 kk rfl
      | long =>
        refine va_newa (ty := .long) (a0 := (z.toNat, .inr (.inl fun _ => 0))) F1 F2 (F7 _ hw) rfl F9.1 S.2.2.2.1 (wsl_D b0 av cA h) S.2.2.2.2.2.2.1 hA (fun _ => rfl) (of32_nneg hz hz0) (of32_clamp hz) (by simp only [componentBytes]; omega) (by omega) (by omega) hd (fun q cN H1 hK2 hP hD hS1 => ?_)
        exact made_row (c0 := 22) (ty := .long) (hz0 := hz0) (hz1 := hz1) F10.1 S (by omega) (tyl_at (k := 2) F9.1 rfl hK2) En_nwJ hP hD hS1 kk rfl
      | boolean =>
        refine va_newa (ty := .boolean) (a0 := (z.toNat, .inl fun _ => 0)) F1 F2 (F7 _ hw) rfl F9.1 S.2.2.2.1 (wsl_D b0 av cA h) S.2.2.2.2.2.2.1 hA (fun _ => rfl) (of32_nneg hz hz0) (of32_clamp hz) (by simp only [componentBytes]; omega) (by omega) (by omega) hd (fun q cN H1 hK2 hP hD hS1 => ?_)
        exact made_row (c0 := 23) (ty := .boolean) (hz0 := hz0) (hz1 := hz1) F10.1 S (by omega) (tyl_at (k := 3) F9.1 rfl hK2) (En_nwI (by simp)) hP hD hS1 kk rfl
      | _ => exact absurd rfl h99
    · cases hs
  · cases hs
/-- what the words say of a row of references that is made -/
def AF (own idx c0 : Nat) : Prop := (c0 = 24 ∧ Cond.classLink (cn own) idx RX2 ∈ TG) ∨ (c0 = 25 ∧ Cond.classLink (cn own) idx RX8 ∈ TG) ∨ (c0 = 26 ∧ Cond.classLink (cn own) idx RX10 ∈ TG)
theorem s_anwa {idx c0 : Nat} (F : Fx D b0 cA av adK adV L xs p R s m args meth c M) (hd : decode M.2.2.1 pc = .ok (.anewarray idx, len)) (hf : AF M.1 idx c0) (hs : mnwa len 3 pc ls st h c0 = some x) (hRc : b0 + hN x.2.2.2 ≤ s.heap.size + R.cells) (hRs : hS x.2.2.2 ≤ s0 + R.slots)
    (kk : Go D b0 cA av L xs p l e R s m args below meth c M s0 Q x) : Go D b0 cA av L xs p l e R s m args below meth c M s0 Q (pc, ls, st, h) := by
  obtain ⟨F1, F2, F3, F4, F5, F6, F7, F8, F9, F10, F11, F12⟩ := F
  unfold mnwa at hs
  split at hs
  · rename_i z t
    split at hs
    · rename_i hl
      obtain ⟨rfl, hz0, hz1⟩ := hl
      cases hs
      intro H locs cells slots la S
      dsimp only at S
      have hsz := S.2.2.2.2.2.2.2.1
      have hss := S.2.2.2.2.2.2.2.2.1
      rw [hN_nw] at hRc
      rw [hS_nw] at hRs
      have hz : in32 z := S.2.2.1 (.inl z) (by simp)
      have hA : ∀ q, s.heap.size ≤ q → b0 ≤ q := fun q hq => Nat.le_trans F9.2.2.2.2.2.2.2.1 hq
      show W p l e R s m args below meth c H locs cells slots Q (F0 m pc la (.int (Int32.ofInt z) :: t.map (cv av)))
      rcases hf with ⟨rfl, hw⟩ | ⟨rfl, hw⟩ | ⟨rfl, hw⟩
      · refine va_newq F1 F2 F5 (F7 _ hw) F9.2.2.2.2.2.2.2.2.2.1 F9.1 S.2.2.2.1 (wsl_D b0 av cA h) S.2.2.2.2.2.2.1 hA (of32_nneg hz hz0) (of32_clamp hz) (by omega) (by omega) (by omega) hd (fun q cN H1 hK2 hP hD hS1 => ?_)
        exact made_row (c0 := 24) (ty := .object RX2) (hz0 := hz0) (hz1 := hz1) F10.1 S (by omega) (tyl_at (k := 4) F9.1 rfl hK2) (En_nwR F10.1 (by simp)) hP hD hS1 kk rfl
      · refine va_newq F1 F2 F5 (F7 _ hw) F9.2.2.2.2.2.2.2.2.2.2.1 F9.1 S.2.2.2.1 (wsl_D b0 av cA h) S.2.2.2.2.2.2.1 hA (of32_nneg hz hz0) (of32_clamp hz) (by omega) (by omega) (by omega) hd (fun q cN H1 hK2 hP hD hS1 => ?_)
        exact made_row (c0 := 25) (ty := .object RX8) (hz0 := hz0) (hz1 := hz1) F10.1 S (by omega) (tyl_at (k := 5) F9.1 rfl hK2) (En_nwR F10.1 (by simp)) hP hD hS1 kk rfl
      · refine va_newq F1 F2 F5 (F7 _ hw) F9.2.2.2.2.2.2.2.2.2.2.2 F9.1 S.2.2.2.1 (wsl_D b0 av cA h) S.2.2.2.2.2.2.1 hA (of32_nneg hz hz0) (of32_clamp hz) (by omega) (by omega) (by omega) hd (fun q cN H1 hK2 hP hD hS1 => ?_)
        exact made_row (c0 := 26) (ty := .object RX10) (hz0 := hz0) (hz1 := hz1) F10.1 S (by omega) (tyl_at (k := 6) F9.1 rfl hK2) (En_nwR F10.1 (by simp)) hP hD hS1 kk rfl
    · cases hs
  · cases hs
theorem aast_one {v a z0 ci k0 : Nat} {z : Int} {C : vw_C} {c0 : Nat} (F : Fx D b0 cA av adK adV L xs p R s m args meth c M) (hd : decode M.2.2.1 pc = .ok (.aastore, 1)) (q : 200 ≤ a) (qv : 200 ≤ v) (hk : (hK h a).1 = c0) (hc0 : c0 = 24 ∨ c0 = 25 ∨ c0 = 26) (hkv : (hK h v).1 = ci) (hci : ci < 13) (hC : vwCl[ci]? = some C) (hty : (tyl cA)[k0]? = some (cA c0, .object C.1)) (hz0 : 0 ≤ z) (hz1 : z < (hK h a).2)
    (S : St D b0 cA av L xs s M.2.2.2.1 s0 ls (.inr (.inr v) :: .inl z :: .inr (.inr a) :: t) h H locs cells slots la) (kk : Go D b0 cA av L xs p l e R s m args below meth c M s0 Q (pc + 1, ls, t, wR h a z.toNat v)) : W p l e R s m args below meth c H locs cells slots Q (F0 m pc la (av v :: .int (Int32.ofInt z) :: av a :: t.map (cv av))) := by
  obtain ⟨F1, F2, F3, F4, F5, F6, F7, F8, F9, F10, F11, F12⟩ := F
  have hz : in32 z := S.2.2.1 (.inl z) (by simp)
  have he := wsl_at (b0 := b0) (av := av) (cA := cA) q (S.rowAt q (by omega))
  rw [En_ref hk hc0] at he
  have hev := wsl_at (b0 := b0) (av := av) (cA := cA) qv (S.objAt hkv hci).2
  rw [En_obj hkv (by omega)] at hev
  rw [F10.1.2.1 a q, F10.1.2.1 v qv]
  refine va_astq F1 F2 F9.1 S.2.2.2.1 (wsl_D b0 av cA h) S.2.2.2.2.2.2.1 (a - 200) k0 (v - 200) ci he hty hev hC (vp_in_of32 hz hz0 hz1) hd (fun H1 locs1 hP hD hS1 => ?_)
  have hE : En av cA (wR h a z.toNat v) a = .inl (cA c0, (hK h a).2, .inr (.inr (.inr (.inr (va_up (fun i => rfo (av (hR h a i))) (Int32.ofInt z).toNatClampNeg (some (b0 + (v - 200)))))))) := by
    rw [En_ref (c := c0) (by rw [hK_wR]; exact hk) hc0, hK_wR, of32_clamp hz]
    congr 8
    funext i
    unfold va_up
    rw [hR_wR]
    by_cases hi : i = z.toNat
    · simp only [hi, and_self, if_true]
      rw [F10.1.2.1 v qv]; rfl
    · simp [hi]
  rw [wsl_set (h := h) (h' := (wR h a z.toNat v)) q rfl hE (fun b hb => En_wR hb)] at hP
  exact kk H1 locs1 cells slots la (S.stored (fun w hw => by simp [hw]) hP hS1 rfl rfl (fun _ => rfl) (okh_wR S.2.2.2.2.1) (OldEq_wR S.2.2.2.2.2.1 q))
theorem s_aast (F : Fx D b0 cA av adK adV L xs p R s m args meth c M) (hd : decode M.2.2.1 pc = .ok (.aastore, len)) (hs : maast len pc ls st h = some x)
    (kk : Go D b0 cA av L xs p l e R s m args below meth c M s0 Q x) : Go D b0 cA av L xs p l e R s m args below meth c M s0 Q (pc, ls, st, h) := by
  unfold maast at hs
  split at hs
  · rename_i v z a t
    split at hs
    · rename_i hl
      obtain ⟨rfl, q, qv, hk, hkv, hz0, hz1⟩ := hl
      cases hs
      intro H locs cells slots la S
      dsimp only at S
      rcases hk with hk | hk | hk
      · rw [hk] at hkv
        exact aast_one (z0 := 0) (ci := 2) (k0 := 4) (c0 := 24) F hd q qv hk (by simp) hkv (by omega) rfl rfl hz0 hz1 S kk
      · rw [hk] at hkv
        exact aast_one (z0 := 0) (ci := 8) (k0 := 5) (c0 := 25) F hd q qv hk (by simp) hkv (by omega) rfl rfl hz0 hz1 S kk
      · rw [hk] at hkv
        exact aast_one (z0 := 0) (ci := 10) (k0 := 6) (c0 := 26) F hd q qv hk (by simp) hkv (by omega) rfl rfl hz0 hz1 S kk
    · cases hs
  · cases hs
end Sim4
