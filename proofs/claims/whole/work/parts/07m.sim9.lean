theorem exl_args {b0 : Nat} {av : Nat → Value} (hav : AvOk b0 av) (vs : List PV) : ∀ (k i : Nat) (v : PV) (n : Nat), (exl vs ++ List.replicate n none)[i]? = some (some v) → (k + i, cv av v) ∈ lv_args k (vs.map (cv av)) := by
  induction vs with
  | nil =>
    intro k i v n hi
    simp only [exl, List.nil_append] at hi
    have := List.eq_of_mem_replicate (List.mem_of_getElem? hi)
    cases this
  | cons u vs ih =>
    intro k i v n hi
    have hcat := cv_cat hav u
    match u, hi, hcat with
    | .inl z, hi, hcat =>
      simp only [exl, List.cons_append] at hi
      show (k + i, cv av v) ∈ (k, cv av (.inl z)) :: lv_args (if (cv av (.inl z)).category = 2 then k + 2 else k + 1) (vs.map (cv av))
      rw [hcat, if_neg (by simp)]
      cases i with
      | zero =>
        simp only [List.getElem?_cons_zero, Option.some.injEq] at hi
        subst hi
        exact List.mem_cons_self
      | succ i =>
        simp only [List.getElem?_cons_succ] at hi
        have := ih (k + 1) i v n hi
        rw [show k + 1 + i = k + (i + 1) by omega] at this
        exact List.mem_cons_of_mem _ this
    | .inr (.inr z), hi, hcat =>
      simp only [exl, List.cons_append] at hi
      show (k + i, cv av v) ∈ (k, cv av (.inr (.inr z))) :: lv_args (if (cv av (.inr (.inr z))).category = 2 then k + 2 else k + 1) (vs.map (cv av))
      rw [hcat, if_neg (by simp)]
      cases i with
      | zero =>
        simp only [List.getElem?_cons_zero, Option.some.injEq] at hi
        subst hi
        exact List.mem_cons_self
      | succ i =>
        simp only [List.getElem?_cons_succ] at hi
        have := ih (k + 1) i v n hi
        rw [show k + 1 + i = k + (i + 1) by omega] at this
        exact List.mem_cons_of_mem _ this
    | .inr (.inl z), hi, hcat =>
      simp only [exl, List.cons_append] at hi
      show (k + i, cv av v) ∈ (k, cv av (.inr (.inl z))) :: lv_args (if (cv av (.inr (.inl z))).category = 2 then k + 2 else k + 1) (vs.map (cv av))
      rw [hcat, if_pos rfl]
      cases i with
      | zero =>
        simp only [List.getElem?_cons_zero, Option.some.injEq] at hi
        subst hi
        exact List.mem_cons_self
      | succ i =>
        cases i with
        | zero => simp at hi
        | succ i =>
          simp only [List.getElem?_cons_succ] at hi
          have := ih (k + 2) i v n hi
          rw [show k + 2 + i = k + (i + 1 + 1) by omega] at this
          exact List.mem_cons_of_mem _ this
theorem exl_len {b0 : Nat} {av : Nat → Value} (hav : AvOk b0 av) (vs : List PV) : (lg_sl (vs.map (cv av))).length = (exl vs).length := by
  induction vs with
  | nil => rfl
  | cons u vs ih =>
    have hcat := cv_cat hav u
    unfold lg_sl at ih ⊢
    simp only [List.map_cons, List.flatMap_cons, List.length_append, ih]
    match u, hcat with
    | .inl z, hcat => rw [if_neg (by rw [hcat]; simp)]; simp only [exl, List.length_cons, List.length_nil]; omega
    | .inr (.inr z), hcat => rw [if_neg (by rw [hcat]; simp)]; simp only [exl, List.length_cons, List.length_nil]; omega
    | .inr (.inl z), hcat => rw [if_pos (by rw [hcat])]; simp only [exl, List.length_cons, List.length_nil]; omega
theorem exl_mem {vs : List PV} : ∀ {i : Nat} {v : PV}, (exl vs)[i]? = some (some v) → v ∈ vs := by
  induction vs with
  | nil => intro i v hi; simp [exl] at hi
  | cons u vs ih =>
    intro i v hi
    match u, hi with
    | .inl z, hi =>
      simp only [exl] at hi
      cases i with
      | zero => simp at hi; simp [hi]
      | succ i => simp only [List.getElem?_cons_succ] at hi; exact List.mem_cons_of_mem _ (ih hi)
    | .inr (.inr z), hi =>
      simp only [exl] at hi
      cases i with
      | zero => simp at hi; simp [hi]
      | succ i => simp only [List.getElem?_cons_succ] at hi; exact List.mem_cons_of_mem _ (ih hi)
    | .inr (.inl z), hi =>
      simp only [exl] at hi
      cases i with
      | zero => simp at hi; simp [hi]
      | succ i =>
        cases i with
        | zero => simp at hi
        | succ i => simp only [List.getElem?_cons_succ] at hi; exact List.mem_cons_of_mem _ (ih hi)
theorem ent_LR {b0 : Nat} {av : Nat → Value} (hav : AvOk b0 av) {as : List PV} {n : Nat} (hl : (exl as.reverse).length ≤ n) : LR av (ent n as) n ((lg_sl (as.reverse.map (cv av)) ++ List.replicate (n - (lg_sl (as.reverse.map (cv av))).length) Slot.unset).toArray) := by
  have hh := lv_entry (as.reverse.map (cv av)) (n := n) (by rw [exl_len hav]; exact hl)
  refine ⟨by simp only [ent, List.length_append, List.length_replicate]; omega, hh.1, hh.2.1, fun q hq => ?_⟩
  obtain ⟨v, hv, hx, -⟩ := mem_lcl.mp hq
  have h1 := exl_args hav as.reverse 0 q.1 v _ hv
  rw [Nat.zero_add, ← hx] at h1
  exact hh.2.2 q h1
theorem ent_ok {as : List PV} {n : Nat} (ha : ∀ v ∈ as, okv v) : okl (ent n as) := by
  intro i v hi
  unfold ent at hi
  by_cases h1 : i < (exl as.reverse).length
  · rw [List.getElem?_append_left h1] at hi
    exact ha v (by simpa using exl_mem hi)
  · rw [List.getElem?_append_right (by omega)] at hi
    have := List.eq_of_mem_replicate (List.mem_of_getElem? hi)
    cases this
/-- what a method leaves behind -/
def QC (D : va_G) (b0 : Nat) (cA : Nat → ClassId) (av : Nat → Value) (L : Nat) (xs : Nat → Int32) (r : Option PV) (h' : Hp) : Array Value → State → Outcome → State → Prop := fun _ st o t =>
  o = .returned (r.map (cv av)) ∧ va_P D vwCl (wsl b0 av cA h') t.heap ∧ t.heap.size = b0 + hN h' ∧ okh h' ∧ OldEq L xs h' ∧ (∀ a, 200 ≤ a → a < 200 + hN h' → (hK h' a).1 < 13 ∨ (20 ≤ (hK h' a).1 ∧ (hK h' a).1 ≤ 26)) ∧ (∀ v, r = some v → okv v) ∧ va_F (fun q => b0 ≤ q) st t
section Sim9
variable {D : va_G} {b0 : Nat} {cA : Nat → ClassId} {av : Nat → Value} {adK adV : Nat → Nat} {L : Nat} {xs : Nat → Int32} {p : Program} {l : Launch} {e : Env} {R : Room} {s : State} {m : MethodId} {args : Array Value} {below : List Frame} {meth : Method} {c : Code} {M : Me} {Q : State → Prop} {s0 pc len nL mc ms : Nat} {ls : List (Option PV)} {st t : List PV} {h : Hp} {H : Heap} {locs : List Loc} {cells slots : Nat} {la : Array Slot} {x : Nx}
theorem size_ge (hP : va_P D vwCl (wsl b0 av cA h) H) (hb : b0 ≤ H.size) : b0 + hN h ≤ H.size := by
  by_cases h0 : hN h = 0
  · omega
  · have e1 := wsl_at (b0 := b0) (av := av) (cA := cA) (h := h) (a := 200 + (hN h - 1)) (by omega) (by omega)
    have h1 := va_at.lt (hP _ _ e1)
    simp only at h1
    omega
theorem byte_id {z : Int} (h1 : -128 ≤ z) (h2 : z ≤ 127) : (Int32.ofInt z).toInt8.toInt32 = Int32.ofInt z := by
  apply Int32.toInt_inj.mp
  rw [Int8.toInt_toInt32, Int32.toInt_toInt8, toInt_of32 (by unfold in32; omega)]
  unfold Int.bmod
  dsimp only
  split <;> omega
theorem rok_nar {rt : Option FieldType} {z : Int} (hz : rokB rt z = true) : ∃ ty, rt = some ty ∧ narrow ty (.int (Int32.ofInt z)) = .int (Int32.ofInt z) := by
  unfold rokB at hz
  split at hz
  · exact ⟨_, rfl, rfl⟩
  · exact ⟨_, rfl, (nar_bool (by simpa using hz)).1⟩
  · have hz' : -128 ≤ z ∧ z ≤ 127 := by simpa using hz
    refine ⟨_, rfl, ?_⟩
    have := pk_nb (Int32.ofInt z)
    rwa [byte_id hz'.1 hz'.2] at this
  · have hz' : 0 ≤ z ∧ z ≤ 65535 := by simpa using hz
    refine ⟨_, rfl, ?_⟩
    obtain ⟨q, rfl⟩ : ∃ q : Nat, z = (q : Int) := ⟨z.toNat, by omega⟩
    exact (pk_charN (q := q) (by omega)).1
  · cases hz
theorem s_ret {i : Instr} {r : Option PV} (F : Fx D b0 cA av adK adV L xs p R s m args meth c M) (hd : decode M.2.2.1 pc = .ok (i, len)) (hr : rtn M.2.2.2.2 i len st = some r) (hmc : s.heap.size + mc = b0 + hN h) (hms : ms + s0 = hS h) : Go D b0 cA av L xs p l e R s m args below meth c M s0 (MQ below (QC D b0 cA av L xs r h) args s mc ms (fun q => b0 ≤ q)) (pc, ls, st, h) := by
  obtain ⟨F1, F2, F3, F4, F5, F6, F7, F8, F9, F10, F11, F12⟩ := F
  intro H locs cells slots la S
  dsimp only at S
  refine W_size (fun hz => ?_)
  have e1 := S.2.2.2.2.2.2.2.1
  have e2 := S.2.2.2.2.2.2.2.2.1
  obtain rfl : cells = mc := by omega
  obtain rfl : slots = ms := by omega
  have hge := size_ge S.2.2.2.1 (Nat.le_trans F9.2.2.2.2.2.2.2.1 S.2.2.2.2.2.2.1.1)
  have hq : ∀ (v : Option Value), v = r.map (cv av) → (∀ w, r = some w → okv w) → ∀ t : State, t.heap = H → s.WarmedH t.vm → QC D b0 cA av L xs r h args s (.returned v) t := by
    intro v hv hok t ht _
    refine ⟨by rw [hv], by rw [ht]; exact S.2.2.2.1, by rw [ht]; omega, S.2.2.2.2.1, S.2.2.2.2.2.1, S.2.2.2.2.2.2.2.2.2, hok, S.2.2.2.2.2.2.1.F ht⟩
  have hf : ∀ q ∈ locs, b0 ≤ q.base := S.2.2.2.2.2.2.1.2.2
  unfold rtn at hr
  split at hr
  · split at hr
    · rename_i z
      split at hr
      · rename_i hl
        obtain ⟨rfl, hz⟩ := hl
        cases hr
        obtain ⟨ty, h1, h2⟩ := rok_nar hz
        exact W.zret F1 F2 (by rw [F3]; exact h1) h2 (hq _ rfl (fun w hw => by cases hw; exact S.2.2.1 _ (by simp))) hf hd (hlocks := F8)
      · cases hr
    · cases hr
  · split at hr
    · rename_i z
      split at hr
      · rename_i hl
        obtain ⟨rfl, hz⟩ := hl
        cases hr
        exact W.lret F1 F2 (by rw [F3]; exact hz) (hq _ rfl (fun w hw => by cases hw; exact S.2.2.1 _ (by simp))) hf hd (hlocks := F8)
      · cases hr
    · cases hr
  · split at hr
    · rename_i a
      split at hr
      · rename_i hl
        obtain ⟨rfl, hz⟩ := hl
        cases hr
        have hrt : ∃ rt, M.2.2.2.2 = some rt ∧ ((∃ n, rt = .object n) ∨ ∃ t, rt = .array t) := by
          unfold isRf at hz
          split at hz
          · rename_i n hn
            exact ⟨_, hn, Or.inl ⟨_, rfl⟩⟩
          · rename_i n hn
            exact ⟨_, hn, Or.inr ⟨_, rfl⟩⟩
          · cases hz
        obtain ⟨rt, h1, h2⟩ := hrt
        exact W.aret F1 F2 (by rw [F3]; exact h1) h2 (F10.1.2.2 a) (hq _ rfl (fun w hw => by cases hw; trivial)) hf hd (hlocks := F8)
      · cases hr
    · cases hr
  · split at hr
    · split at hr
      · rename_i hl
        obtain ⟨rfl, hz⟩ := hl
        cases hr
        exact W.vret F1 F2 (by rw [F3]; exact hz) (hq _ rfl (fun w hw => by cases hw)) hf hd (hlocks := F8)
      · cases hr
    · cases hr
  · cases hr
end Sim9
