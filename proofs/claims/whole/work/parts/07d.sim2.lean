def tyOk (w bl : Nat) (ty : FieldType) : Prop := (w = 0 ∧ bl = 0 ∧ ty = .int) ∨ (w = 0 ∧ bl = 1 ∧ ty = .boolean) ∨ (w = 1 ∧ ty = .long) ∨ (w = 2 ∧ ((∃ n, ty = .object n) ∨ ∃ u, ty = .array u))
/-- what the words say of a field's link -/
def FF (own idx ci k w bl : Nat) (f : Bool) : Prop := ∃ (C : String) (T : u_T) (N : Nat) (ty0 : Nat → FieldType), vwCl[ci]? = some (C, T, N) ∧ k < N ∧ (wdl ci).length = N ∧ (wdl ci).getD k 0 = w ∧ (∀ x ∈ u_ws C T N, x ∈ TG) ∧ Cond.fieldLink (cn own) idx (T k).1 (T k).2.1 (T k).2.2.1 ∈ TG ∧ (∀ j, j < N → parseFieldDescriptor (T j).2.2.1 = some (ty0 j)) ∧ (∀ a, a < N → ∀ b, b < N → a ≠ b → (T a).2.1 ≠ (T b).2.1) ∧ tyOk w bl (ty0 k) ∧ (f = false → (T k).2.2.2 = false ∨ (100 ≤ own ∧ (T k).1 = cn own))
theorem vwCl_lt {ci : Nat} {q : vw_C} (h : vwCl[ci]? = some q) : ci < 13 := (List.getElem?_eq_some_iff.mp h).1
theorem okd_13 {L a : Nat} (h : (okd L a).1 < 13) : False := by
  unfold okd at h
  split at h
  · simp at h
  · split at h
    · simp at h
    · split at h
      · simp at h
      · split at h <;> simp at h
section Sim2
variable {D : va_G} {b0 : Nat} {cA : Nat → ClassId} {av : Nat → Value} {adK adV : Nat → Nat} {L : Nat} {xs : Nat → Int32} {p : Program} {l : Launch} {e : Env} {R : Room} {s : State} {m : MethodId} {args : Array Value} {below : List Frame} {meth : Method} {c : Code} {M : Me} {Q : State → Prop} {s0 pc len nL : Nat} {ls : List (Option PV)} {st t : List PV} {h : Hp} {H : Heap} {locs : List Loc} {cells slots : Nat} {la : Array Slot} {x : Nx}
theorem St.objAt (S : St D b0 cA av L xs s nL s0 ls st h H locs cells slots la) {a ci : Nat} (hk : (hK h a).1 = ci) (hci : ci < 13) : 200 ≤ a ∧ a < 200 + hN h := by
  have h1 : 200 ≤ a := by
    rcases Nat.lt_or_ge a 200 with q | q
    · have := S.2.2.2.2.2.1.1 a q
      rw [this] at hk
      exact (okd_13 (by rw [hk]; exact hci)).elim
    · exact q
  refine ⟨h1, ?_⟩
  rcases Nat.lt_or_ge a (200 + hN h) with q | q
  · exact q
  · have := S.2.2.2.2.1.2.2.1 a q
    omega
theorem St.rowAt (S : St D b0 cA av L xs s nL s0 ls st h H locs cells slots la) {a : Nat} (h1 : 200 ≤ a) (hk : (hK h a).1 ≤ 26) : a < 200 + hN h := by
  rcases Nat.lt_or_ge a (200 + hN h) with q | q
  · exact q
  · have := S.2.2.2.2.1.2.2.1 a q
    omega
theorem okv_mvl (hh : okh h) (w a k : Nat) : okv (mvl h w a k) := by
  unfold mvl
  split
  · exact hh.1 a k
  · split
    · exact hh.2.1 a k
    · trivial
theorem s_get {idx ci k w bl : Nat} {f : Bool} (F : Fx D b0 cA av adK adV L xs p R s m args meth c M) (hd : decode M.2.2.1 pc = .ok (.getfield idx, len)) (hf : FF M.1 idx ci k w bl f) (hs : mget len pc ls st h ci k w = some x)
    (kk : Go D b0 cA av L xs p l e R s m args below meth c M s0 Q x) : Go D b0 cA av L xs p l e R s m args below meth c M s0 Q (pc, ls, st, h) := by
  obtain ⟨C, T, N, ty0, f1, f2, f3, f4, f5, f6, f7, f8, f9, f10⟩ := hf
  obtain ⟨F1, F2, F3, F4, F5, F6, F7, F8, F9, F10, F11, F12⟩ := F
  unfold mget at hs
  split at hs
  · rename_i a t
    split at hs
    · rename_i hl
      cases hs
      rw [hl.1] at hd
      intro H locs cells slots la S
      obtain ⟨a1, a2⟩ := S.objAt hl.2 (vwCl_lt f1)
      have he := wsl_at (b0 := b0) (av := av) (cA := cA) a1 a2
      rw [En_obj hl.2 (by have := vwCl_lt f1; omega)] at he
      show W p l e R s m args below meth c H locs cells slots Q (F0 m pc la (av a :: t.map (cv av)))
      rw [F10.1.2.1 a a1]
      refine va_get (C := C) (T := T) (N := N) (ci := ci) F1 F2 F7 f5 F5 F9.1 S.2.2.2.1 (a - 200) he f1 k f2 (F7 _ f6) (fun _ q => q) (obj_get (by rw [f3]; exact f2) f4) hd ?_
      refine kk H locs cells slots la ⟨S.1, S.2.1, ?_, S.2.2.2⟩
      intro v hv
      rcases List.mem_cons.mp hv with rfl | hv
      · exact okv_mvl S.2.2.2.2.1 _ _ _
      · exact S.2.2.1 v (by simp [hv])
    · cases hs
  · cases hs
theorem nar_bool {v : Int} (h : v = 0 ∨ v = 1) : narrow .boolean (.int (Int32.ofInt v)) = .int (Int32.ofInt v) ∧ fits .boolean (.int (Int32.ofInt v)) = true := by
  rcases h with rfl | rfl <;> exact ⟨by decide, by decide⟩
theorem nar_ref {ty : FieldType} {v : Value} (ht : (∃ n, ty = .object n) ∨ ∃ u, ty = .array u) (hv : v = .null ∨ ∃ q, v = .ref q) : narrow ty v = v ∧ fits ty v = true := by
  rcases ht with ⟨n, rfl⟩ | ⟨u, rfl⟩ <;> rcases hv with rfl | ⟨q, rfl⟩ <;> exact ⟨rfl, rfl⟩
theorem put_all {own ci k w bl idx : Nat} {h' : Hp} {v : PV} {a : Nat} (F : Fx D b0 cA av adK adV L xs p R s m args meth c M) (hini : 100 ≤ M.1 → M.2.1.name = "<init>") (hd : decode M.2.2.1 pc = .ok (.putfield idx, 3)) (hown : own = M.1) (hf : FF own idx ci k w bl false)
    (hk : (hK h a).1 = ci) (hnar : ∀ ty, tyOk w bl ty → narrow ty (cv av v) = cv av v ∧ fits ty (cv av v) = true) (hN' : hN h' = hN h) (hS' : hS h' = hS h) (hK' : ∀ b, hK h' b = hK h b) (hE : obj av h' ci a = (obj av h ci a).set k (cv av v)) (hEo : ∀ b, b ≠ a → En av cA h' b = En av cA h b) (hok : okh h → okh h') (hold : 200 ≤ a → OldEq L xs h → OldEq L xs h')
    (S : St D b0 cA av L xs s M.2.2.2.1 s0 ls (v :: .inr (.inr a) :: t) h H locs cells slots la) (kk : Go D b0 cA av L xs p l e R s m args below meth c M s0 Q (pc + 3, ls, t, h')) : W p l e R s m args below meth c H locs cells slots Q (F0 m pc la (cv av v :: av a :: t.map (cv av))) := by
  subst hown
  obtain ⟨C, T, N, ty0, f1, f2, f3, f4, f5, f6, f7, f8, f9, f10⟩ := hf
  obtain ⟨F1, F2, F3, F4, F5, F6, F7, F8, F9, F10, F11, F12⟩ := F
  obtain ⟨a1, a2⟩ := S.objAt hk (vwCl_lt f1)
  have hc20 : ci < 20 := by have := vwCl_lt f1; omega
  have he := wsl_at (b0 := b0) (av := av) (cA := cA) a1 a2
  rw [En_obj hk hc20] at he
  rw [F10.1.2.1 a a1]
  have hn := hnar _ f9
  have hE2 : En av cA h' a = .inr (ci, (obj av h ci a).set k (cv av v)) := by rw [En_obj (by rw [hK']; exact hk) hc20, hE]
  have hws := wsl_set (b0 := b0) a1 hN' hE2 hEo
  have fin : ∀ (H1 : Heap) (locs1 : List Loc), va_P D vwCl (wsl b0 av cA h') H1 → va_S (fun q => b0 ≤ q) s.heap H1 locs1 → W p l e R s m args below meth c H1 locs1 cells slots Q (F0 m (pc + 3) la (t.map (cv av))) := by
    intro H1 locs1 hP hS1
    refine kk H1 locs1 cells slots la ⟨S.1, S.2.1, fun w hw => S.2.2.1 w (by simp [hw]), hP, hok S.2.2.2.2.1, hold a1 S.2.2.2.2.2.1, hS1, ?_, ?_, ?_⟩
    · rw [hN']; exact S.2.2.2.2.2.2.2.1
    · rw [hS']; exact S.2.2.2.2.2.2.2.2.1
    · intro b hb1 hb2
      rw [hK']
      exact S.2.2.2.2.2.2.2.2.2 b hb1 (by rw [hN'] at hb2; exact hb2)
  rcases f10 rfl with hfin | ⟨h100, hdecl⟩
  · refine va_put (C := C) (T := T) (N := N) (ci := ci) F1 F2 F7 f5 ty0 f7 f8 F5 F9.1 S.2.2.2.1 (wsl_D b0 av cA h) S.2.2.2.2.2.2.1 (a - 200) he f1 k f2 (F7 _ f6) (fun _ q => q) hfin (f7 k f2) hn.1 hn.2 (by rw [obj_len, f3]; exact f2) hd (fun H1 locs1 hP hD hS1 => ?_)
    rw [hws] at hP
    exact fin H1 locs1 hP hS1
  · by_cases hb : (T k).2.2.2 = true
    · refine va_putF (C := C) (T := T) (N := N) (ci := ci) F1 F2 F7 f5 ty0 f7 f8 F5 F9.1 S.2.2.2.1 (wsl_D b0 av cA h) S.2.2.2.2.2.2.1 (a - 200) he f1 k f2 (F7 _ f6) (fun _ q => q) hb (by rw [F6 h100]; exact hini h100) hdecl (f7 k f2) hn.1 hn.2 (by rw [obj_len, f3]; exact f2) hd (fun H1 locs1 hP hD hS1 => ?_)
      rw [hws] at hP
      exact fin H1 locs1 hP hS1
    · refine va_put (C := C) (T := T) (N := N) (ci := ci) F1 F2 F7 f5 ty0 f7 f8 F5 F9.1 S.2.2.2.1 (wsl_D b0 av cA h) S.2.2.2.2.2.2.1 (a - 200) he f1 k f2 (F7 _ f6) (fun _ q => q) (by simpa using hb) (f7 k f2) hn.1 hn.2 (by rw [obj_len, f3]; exact f2) hd (fun H1 locs1 hP hD hS1 => ?_)
      rw [hws] at hP
      exact fin H1 locs1 hP hS1
theorem s_put {idx ci k w bl : Nat} (F : Fx D b0 cA av adK adV L xs p R s m args meth c M) (hini : 100 ≤ M.1 → M.2.1.name = "<init>") (hd : decode M.2.2.1 pc = .ok (.putfield idx, len)) (hf : FF M.1 idx ci k w bl false) (hs : mput len pc ls st h ci k w bl = some x)
    (kk : Go D b0 cA av L xs p l e R s m args below meth c M s0 Q x) : Go D b0 cA av L xs p l e R s m args below meth c M s0 Q (pc, ls, st, h) := by
  have hf' := hf
  obtain ⟨C, T, N, ty0, f1, f2, f3, f4, f5, f6, f7, f8, f9, f10⟩ := hf'
  have hkl : k < (wdl ci).length := by rw [f3]; exact f2
  unfold mput at hs
  split at hs
  · rename_i v a t
    split at hs
    · rename_i hl
      obtain ⟨rfl, rfl, hk, ha, hb⟩ := hl
      cases hs
      intro H locs cells slots la S
      refine put_all (v := .inl v) (h' := wI h a k v) F hini hd rfl hf hk ?_ rfl rfl (fun _ => rfl) (obj_upd hkl f4 (by simp [mvl, hI_wI]) (fun j w' hj => mvl_wI_ne (Or.inr hj))) (fun b hb => En_wI hb) (fun hh => okh_wI hh (S.2.2.1 (.inl v) (by simp))) (fun h2 ho => OldEq_wI ho h2) S kk
      intro ty hty
      rcases hty with ⟨-, -, rfl⟩ | ⟨-, hb1, rfl⟩ | ⟨q, -⟩ | ⟨q, -⟩
      · exact ⟨rfl, rfl⟩
      · exact nar_bool (hb.resolve_left (by omega))
      · exact absurd q (by decide)
      · exact absurd q (by decide)
    · cases hs
  · rename_i v a t
    split at hs
    · rename_i hl
      obtain ⟨rfl, rfl, hk, ha⟩ := hl
      cases hs
      intro H locs cells slots la S
      refine put_all (v := .inr (.inl v)) (h' := wJ h a k v) F hini hd rfl hf hk ?_ rfl rfl (fun _ => rfl) (obj_upd hkl f4 (by simp [mvl, hJ_wJ]) (fun j w' hj => mvl_wJ_ne (Or.inr hj))) (fun b hb => En_wJ hb) (fun hh => okh_wJ hh (S.2.2.1 (.inr (.inl v)) (by simp))) (fun h2 ho => OldEq_wJ ho) S kk
      intro ty hty
      rcases hty with ⟨q, -⟩ | ⟨q, -⟩ | ⟨-, rfl⟩ | ⟨q, -⟩
      · exact absurd q (by decide)
      · exact absurd q (by decide)
      · exact ⟨rfl, rfl⟩
      · exact absurd q (by decide)
    · cases hs
  · rename_i v a t
    split at hs
    · rename_i hl
      obtain ⟨rfl, rfl, hk, ha⟩ := hl
      cases hs
      intro H locs cells slots la S
      refine put_all (v := .inr (.inr v)) (h' := wR h a k v) F hini hd rfl hf hk ?_ rfl rfl (fun _ => rfl) (obj_upd hkl f4 (by simp [mvl, hR_wR]) (fun j w' hj => mvl_wR_ne (Or.inr hj))) (fun b hb => En_wR hb) (fun hh => okh_wR hh) (fun h2 ho => OldEq_wR ho h2) S kk
      intro ty hty
      rcases hty with ⟨q, -⟩ | ⟨q, -⟩ | ⟨q, -⟩ | ⟨-, q⟩
      · exact absurd q (by decide)
      · exact absurd q (by decide)
      · exact absurd q (by decide)
      · exact nar_ref q (F.2.2.2.2.2.2.2.2.2.1.1.2.2 v)
    · cases hs
  · cases hs
end Sim2
