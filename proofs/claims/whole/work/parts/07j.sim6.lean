theorem cmp_lcm {a b : Int} (ha : in64 a) (hb : in64 b) : lg_cmp (Int64.ofInt a) (Int64.ofInt b) = Int32.ofInt (lcm a b) := by
  unfold lg_cmp lcm
  by_cases h1 : b < a
  · rw [if_pos ((of64_lt hb ha).mpr h1), if_neg (by omega), if_neg (by omega)]; rfl
  · rw [if_neg (fun q => h1 ((of64_lt hb ha).mp q))]
    by_cases h2 : a = b
    · rw [if_pos ((of64_eq ha hb).mpr h2), if_neg (by omega), if_pos h2]; rfl
    · rw [if_neg (fun q => h2 ((of64_eq ha hb).mp q)), if_pos (by omega)]; rfl
section Sim6
variable {D : va_G} {b0 : Nat} {cA : Nat → ClassId} {av : Nat → Value} {adK adV : Nat → Nat} {L : Nat} {xs : Nat → Int32} {p : Program} {l : Launch} {e : Env} {R : Room} {s : State} {m : MethodId} {args : Array Value} {below : List Frame} {meth : Method} {c : Code} {M : Me} {Q : State → Prop} {s0 pc len nL : Nat} {ls : List (Option PV)} {st t : List PV} {h : Hp} {H : Heap} {locs : List Loc} {cells slots : Nat} {la : Array Slot} {x : Nx}
theorem tgt_eq {off : Int} (h0 : 0 ≤ (pc : Int) + off) : (pc : Int) + off = ((tgt pc off : Nat) : Int) := by unfold tgt; omega
/-- a jump: where its test leads -/
theorem s_jmp {off : Int} {b : Bool} {st : List PV} (hs : mjmp len pc off ls t h b = some x) (ht : ∀ w ∈ t, w ∈ st) (hw : len = 3 → (pc : Int) + off = ((tgt pc off : Nat) : Int) → (∀ v ∈ st, okv v) → ∀ (H : Heap) (locs : List Loc) (cells slots : Nat) (la : Array Slot), (b = true → W p l e R s m args below meth c H locs cells slots Q (F0 m (tgt pc off) la (t.map (cv av)))) → (b = false → W p l e R s m args below meth c H locs cells slots Q (F0 m (pc + 3) la (t.map (cv av)))) → W p l e R s m args below meth c H locs cells slots Q (F0 m pc la (st.map (cv av))))
    (kk : Go D b0 cA av L xs p l e R s m args below meth c M s0 Q x) : Go D b0 cA av L xs p l e R s m args below meth c M s0 Q (pc, ls, st, h) := by
  unfold mjmp at hs
  split at hs
  · rename_i hl
    cases hs
    intro H locs cells slots la S
    dsimp only at S
    have K := kk H locs cells slots la ⟨S.1, S.2.1, fun w hw => S.2.2.1 w (ht w hw), S.2.2.2⟩
    dsimp only at K
    refine hw hl.1 (tgt_eq hl.2) S.2.2.1 H locs cells slots la (fun hb => ?_) (fun hb => ?_)
    · rw [hb] at K; exact K
    · rw [hb] at K; exact K
  · cases hs
theorem s_icmp {cd : Jvm.ClassFile.Cond} {off : Int} (F1 : p.tables.exec = Jvm.exec) (F2 : c.code = M.2.2.1) (hd : decode M.2.2.1 pc = .ok (.if_icmp cd off, len)) (hs : micmp len pc ls st h cd off = some x)
    (kk : Go D b0 cA av L xs p l e R s m args below meth c M s0 Q x) : Go D b0 cA av L xs p l e R s m args below meth c M s0 Q (pc, ls, st, h) := by
  unfold micmp at hs
  split at hs
  · rename_i b a t
    refine s_jmp hs (fun w hw => by simp [hw]) (fun hl ht hv H locs cells slots la k1 k2 => ?_) kk
    subst hl
    have ha : in32 a := hv (.inl a) (by simp)
    have hb : in32 b := hv (.inl b) (by simp)
    cases cd with
    | eq => exact lv_icmp_eq F1 F2 hd ht (fun q => k1 (by simp [mcondB, (of32_eq ha hb).mp q])) (fun q => k2 (by simp [mcondB]; exact fun q2 => q ((of32_eq ha hb).mpr q2)))
    | ne => exact lv_icmp_ne F1 F2 hd ht (fun q => k1 (by simp [mcondB]; exact fun q2 => q ((of32_eq ha hb).mpr q2))) (fun q => k2 (by simp [mcondB, (of32_eq ha hb).mp q]))
    | lt => exact lv_icmp_lt F1 F2 hd ht (fun q => k1 (by simp only [mcondB, decide_eq_true_eq]; exact (of32_lt ha hb).mp q)) (fun q => k2 (by simp only [mcondB, decide_eq_false_iff_not]; exact fun q2 => q ((of32_lt ha hb).mpr q2)))
    | ge => exact lv_icmp_ge F1 F2 hd ht (fun q => k1 (by simp only [mcondB, decide_eq_true_eq]; exact (of32_le hb ha).mp q)) (fun q => k2 (by simp only [mcondB, decide_eq_false_iff_not]; exact fun q2 => q ((of32_le hb ha).mpr q2)))
    | gt => exact lv_icmp_gt F1 F2 hd ht (fun q => k1 (by simp only [mcondB, decide_eq_true_eq]; exact (of32_lt hb ha).mp q)) (fun q => k2 (by simp only [mcondB, decide_eq_false_iff_not]; exact fun q2 => q ((of32_lt hb ha).mpr q2)))
    | le => exact lv_icmp_le F1 F2 hd ht (fun q => k1 (by simp only [mcondB, decide_eq_true_eq]; exact (of32_le ha hb).mp q)) (fun q => k2 (by simp only [mcondB, decide_eq_false_iff_not]; exact fun q2 => q ((of32_le ha hb).mpr q2)))
  · cases hs
theorem s_ifc {cd : Jvm.ClassFile.Cond} {off : Int} (F1 : p.tables.exec = Jvm.exec) (F2 : c.code = M.2.2.1) (hd : decode M.2.2.1 pc = .ok (.ifCond cd off, len)) (hs : mif len pc ls st h cd off = some x)
    (kk : Go D b0 cA av L xs p l e R s m args below meth c M s0 Q x) : Go D b0 cA av L xs p l e R s m args below meth c M s0 Q (pc, ls, st, h) := by
  unfold mif at hs
  split at hs
  · rename_i a t
    refine s_jmp hs (fun w hw => by simp [hw]) (fun hl ht hv H locs cells slots la k1 k2 => ?_) kk
    subst hl
    have ha : in32 a := hv (.inl a) (by simp)
    have hb : in32 0 := in32_0
    cases cd with
    | eq => exact lv_if_eq F1 F2 hd ht (fun q => k1 (by simp only [mcondB, decide_eq_true_eq]; exact (of32_eq ha hb).mp q)) (fun q => k2 (by simp only [mcondB, decide_eq_false_iff_not]; exact fun q2 => q ((of32_eq ha hb).mpr q2)))
    | ne => exact lv_if_ne F1 F2 hd ht (fun q => k1 (by simp only [mcondB, decide_eq_true_eq]; exact fun q2 => q ((of32_eq ha hb).mpr q2))) (fun q => k2 (by simp only [mcondB, decide_eq_false_iff_not]; exact fun q2 => q2 ((of32_eq ha hb).mp q)))
    | lt => exact lv_if_lt F1 F2 hd ht (fun q => k1 (by simp only [mcondB, decide_eq_true_eq]; exact (of32_lt ha hb).mp q)) (fun q => k2 (by simp only [mcondB, decide_eq_false_iff_not]; exact fun q2 => q ((of32_lt ha hb).mpr q2)))
    | ge => exact lv_if_ge F1 F2 hd ht (fun q => k1 (by simp only [mcondB, decide_eq_true_eq]; exact (of32_le hb ha).mp q)) (fun q => k2 (by simp only [mcondB, decide_eq_false_iff_not]; exact fun q2 => q ((of32_le hb ha).mpr q2)))
    | gt => exact lv_if_gt F1 F2 hd ht (fun q => k1 (by simp only [mcondB, decide_eq_true_eq]; exact (of32_lt hb ha).mp q)) (fun q => k2 (by simp only [mcondB, decide_eq_false_iff_not]; exact fun q2 => q ((of32_lt hb ha).mpr q2)))
    | le => exact lv_if_le F1 F2 hd ht (fun q => k1 (by simp only [mcondB, decide_eq_true_eq]; exact (of32_le ha hb).mp q)) (fun q => k2 (by simp only [mcondB, decide_eq_false_iff_not]; exact fun q2 => q ((of32_le ha hb).mpr q2)))
  · cases hs
theorem s_nul {off : Int} (hav : AvOk b0 av) (F1 : p.tables.exec = Jvm.exec) (F2 : c.code = M.2.2.1) (w : Bool) (hd : decode M.2.2.1 pc = .ok (if w then .ifnull off else .ifnonnull off, len)) (hs : mnul len pc ls st h w off = some x)
    (kk : Go D b0 cA av L xs p l e R s m args below meth c M s0 Q x) : Go D b0 cA av L xs p l e R s m args below meth c M s0 Q (pc, ls, st, h) := by
  unfold mnul at hs
  split at hs
  · rename_i a t
    split at hs
    · rename_i hor
      refine s_jmp hs (fun w hw => by simp [hw]) (fun hl ht hv H locs cells slots la k1 k2 => ?_) kk
      subst hl
      show W p l e R s m args below meth c H locs cells slots Q (F0 m pc la (av a :: t.map (cv av)))
      cases w with
      | true =>
        rcases hor with rfl | ha
        · rw [hav.1]
          exact lv_ifnullN F1 F2 hd ht (k1 rfl)
        · rw [hav.2.1 a ha]
          exact lv_ifnull F1 F2 hd (k2 (by simp; omega))
      | false =>
        rcases hor with rfl | ha
        · rw [hav.1]
          exact lv_ifnonnullN F1 F2 hd (k2 rfl)
        · rw [hav.2.1 a ha]
          exact lv_ifnonnull F1 F2 hd ht (k1 (by simp; omega))
    · cases hs
  · cases hs
theorem s_acmp {ac : Jvm.ClassFile.ACond} {off : Int} (hav : AvOk b0 av) (F1 : p.tables.exec = Jvm.exec) (F2 : c.code = M.2.2.1) (hd : decode M.2.2.1 pc = .ok (.if_acmp ac off, len)) (hs : macmp len pc ls st h ac off = some x)
    (kk : Go D b0 cA av L xs p l e R s m args below meth c M s0 Q x) : Go D b0 cA av L xs p l e R s m args below meth c M s0 Q (pc, ls, st, h) := by
  unfold macmp at hs
  split at hs
  · rename_i b a t
    split at hs
    · rename_i hor
      refine s_jmp hs (fun w hw => by simp [hw]) (fun hl ht hv H locs cells slots la k1 k2 => ?_) kk
      subst hl
      show W p l e R s m args below meth c H locs cells slots Q (F0 m pc la (av b :: av a :: t.map (cv av)))
      rw [hav.2.1 a hor.1, hav.2.1 b hor.2]
      cases ac with
      | eq => exact lv_acmp_eq (rx := some (b0 + (a - 200))) (ry := some (b0 + (b - 200))) F1 F2 hd ht (fun q => k1 (by simp only [decide_eq_true_eq]; have := Option.some.inj q; omega)) (fun q => k2 (by simp only [decide_eq_false_iff_not]; exact fun q2 => q (by rw [q2])))
      | ne => exact lv_acmp_ne (rx := some (b0 + (a - 200))) (ry := some (b0 + (b - 200))) F1 F2 hd ht (fun q => k1 (by simp only [decide_eq_true_eq]; exact fun q2 => q (by rw [q2]))) (fun q => k2 (by simp only [decide_eq_false_iff_not]; have := Option.some.inj q; omega))
    · cases hs
  · cases hs
theorem s_tab {df lo hi : Int} {offs : Array Int} (F1 : p.tables.exec = Jvm.exec) (F2 : c.code = M.2.2.1) (hd : decode M.2.2.1 pc = .ok (.tableswitch df lo hi offs, len)) (hs : mtab len pc ls st h df lo hi offs = some x)
    (kk : Go D b0 cA av L xs p l e R s m args below meth c M s0 Q x) : Go D b0 cA av L xs p l e R s m args below meth c M s0 Q (pc, ls, st, h) := by
  unfold mtab at hs
  split at hs
  · rename_i v t
    split at hs
    · rename_i hv
      split at hs
      · rename_i h0
        cases hs
        intro H locs cells slots la S
        dsimp only at S
        have K := kk H locs cells slots la ⟨S.1, S.2.1, fun w hw => S.2.2.1 w (by simp [hw]), S.2.2.2⟩
        have hz : in32 v := S.2.2.1 (.inl v) (by simp)
        exact lv_tableOut F1 F2 hd (by rw [toInt_of32 hz]; exact hv) (tgt_eq h0) K
      · cases hs
    · rename_i hv
      split at hs
      · rename_i off ho
        split at hs
        · rename_i h0
          cases hs
          intro H locs cells slots la S
          dsimp only at S
          have K := kk H locs cells slots la ⟨S.1, S.2.1, fun w hw => S.2.2.1 w (by simp [hw]), S.2.2.2⟩
          have hz : in32 v := S.2.2.1 (.inl v) (by simp)
          exact lv_tableIn F1 F2 hd (by rw [toInt_of32 hz]; omega) (by rw [toInt_of32 hz]; omega) (by rw [toInt_of32 hz]; exact ho) (tgt_eq h0) K
        · cases hs
      · cases hs
  · cases hs
theorem okv_sub (hv : ∀ v ∈ st, okv v) (ht : ∀ w ∈ t, w ∈ st) : ∀ w ∈ t, okv w := fun w hw => hv w (ht w hw)
theorem s_dup (hav : AvOk b0 av) (F1 : p.tables.exec = Jvm.exec) (F2 : c.code = M.2.2.1) (hd : decode M.2.2.1 pc = .ok (.dup, len)) (hs : mdup len pc ls st h = some x)
    (kk : Go D b0 cA av L xs p l e R s m args below meth c M s0 Q x) : Go D b0 cA av L xs p l e R s m args below meth c M s0 Q (pc, ls, st, h) := by
  unfold mdup at hs
  split at hs
  · split at hs
    · rename_i hl
      subst hl
      cases hs
      exact s_stack (fun hv => okv_sub hv (fun w hw => by simp at hw ⊢; exact hw)) (fun _ H locs cells slots la w => lv_dup F1 F2 hd rfl w) kk
    · cases hs
  · rename_i a t
    split at hs
    · rename_i hl
      subst hl
      cases hs
      exact s_stack (fun hv => okv_sub hv (fun w hw => by simp at hw ⊢; exact hw)) (fun _ H locs cells slots la w => lv_dup F1 F2 hd (cv_cat hav (.inr (.inr a))) w) kk
    · cases hs
  · cases hs
theorem s_dup2 (hav : AvOk b0 av) (F1 : p.tables.exec = Jvm.exec) (F2 : c.code = M.2.2.1) (hd : decode M.2.2.1 pc = .ok (.dup2, len)) (hs : mdup2 len pc ls st h = some x)
    (kk : Go D b0 cA av L xs p l e R s m args below meth c M s0 Q x) : Go D b0 cA av L xs p l e R s m args below meth c M s0 Q (pc, ls, st, h) := by
  unfold mdup2 at hs
  split at hs
  · rename_i b a t
    split at hs
    · rename_i hl
      subst hl
      cases hs
      refine s_stack (fun hv => okv_sub hv (fun w hw => ?_)) (fun _ H locs cells slots la w => lv_dup2_11 F1 F2 hd rfl (cv_cat hav (.inr (.inr a))) w) kk
      simp only [List.mem_cons] at hw ⊢
      rcases hw with h | h | h | h | h <;> simp [h]
    · cases hs
  · rename_i b a t
    split at hs
    · rename_i hl
      subst hl
      cases hs
      refine s_stack (fun hv => okv_sub hv (fun w hw => ?_)) (fun _ H locs cells slots la w => lv_dup2_11 F1 F2 hd rfl rfl w) kk
      simp only [List.mem_cons] at hw ⊢
      rcases hw with h | h | h | h | h <;> simp [h]
    · cases hs
  · rename_i a t
    split at hs
    · rename_i hl
      subst hl
      cases hs
      exact s_stack (fun hv => okv_sub hv (fun w hw => by simp at hw ⊢; exact hw)) (fun _ H locs cells slots la w => lv_dup2_2 F1 F2 hd rfl w) kk
    · cases hs
  · cases hs
theorem s_pop (hav : AvOk b0 av) (F1 : p.tables.exec = Jvm.exec) (F2 : c.code = M.2.2.1) (hd : decode M.2.2.1 pc = .ok (.pop, len)) (hs : mpop len pc ls st h = some x)
    (kk : Go D b0 cA av L xs p l e R s m args below meth c M s0 Q x) : Go D b0 cA av L xs p l e R s m args below meth c M s0 Q (pc, ls, st, h) := by
  unfold mpop at hs
  split at hs
  · split at hs
    · rename_i hl
      subst hl
      cases hs
      exact s_stack (fun hv => okv_sub hv (fun w hw => by simp [hw])) (fun _ H locs cells slots la w => lv_pop F1 F2 hd rfl w) kk
    · cases hs
  · rename_i a t
    split at hs
    · rename_i hl
      subst hl
      cases hs
      exact s_stack (fun hv => okv_sub hv (fun w hw => by simp [hw])) (fun _ H locs cells slots la w => lv_pop F1 F2 hd (cv_cat hav (.inr (.inr a))) w) kk
    · cases hs
  · cases hs
theorem s_pop2 (F1 : p.tables.exec = Jvm.exec) (F2 : c.code = M.2.2.1) (hd : decode M.2.2.1 pc = .ok (.pop2, len)) (hs : mpop2 len pc ls st h = some x)
    (kk : Go D b0 cA av L xs p l e R s m args below meth c M s0 Q x) : Go D b0 cA av L xs p l e R s m args below meth c M s0 Q (pc, ls, st, h) := by
  unfold mpop2 at hs
  split at hs
  · split at hs
    · rename_i hl
      subst hl
      cases hs
      exact s_stack (fun hv => okv_sub hv (fun w hw => by simp [hw])) (fun _ H locs cells slots la w => lv_pop2_2 F1 F2 hd rfl w) kk
    · cases hs
  · cases hs
end Sim6
