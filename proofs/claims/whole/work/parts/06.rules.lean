section Rules
variable {d : Nat} {M : Me} {pc : Nat} {ls : List (Option PV)} {t : List PV} {h : Hp} {Q : Option PV → Hp → Prop}
theorem R_div {a b : Int} (hd : decode M.2.2.1 pc = .ok (.idiv, 1)) : WP d M pc ls (.inl b :: .inl a :: t) h Q = (b ≠ 0 ∧ WP d M (pc + 1) ls (.inl (w32 (a.tdiv b)) :: t) h Q) := by
  rw [WP_if (c := 1 = 1 ∧ b ≠ 0) hd rfl rfl rfl]; simp only [true_and]
theorem R_rem {a b : Int} (hd : decode M.2.2.1 pc = .ok (.irem, 1)) : WP d M pc ls (.inl b :: .inl a :: t) h Q = (b ≠ 0 ∧ WP d M (pc + 1) ls (.inl (a.tmod b) :: t) h Q) := by
  rw [WP_if (c := 1 = 1 ∧ b ≠ 0) hd rfl rfl rfl]; simp only [true_and]
theorem R_ldiv {a b : Int} (hd : decode M.2.2.1 pc = .ok (.ldiv, 1)) : WP d M pc ls (.inr (.inl b) :: .inr (.inl a) :: t) h Q = (b ≠ 0 ∧ WP d M (pc + 1) ls (.inr (.inl (w64 (a.tdiv b))) :: t) h Q) := by
  rw [WP_if (c := 1 = 1 ∧ b ≠ 0) hd rfl rfl rfl]; simp only [true_and]
theorem R_lrem {a b : Int} (hd : decode M.2.2.1 pc = .ok (.lrem, 1)) : WP d M pc ls (.inr (.inl b) :: .inr (.inl a) :: t) h Q = (b ≠ 0 ∧ WP d M (pc + 1) ls (.inr (.inl (a.tmod b)) :: t) h Q) := by
  rw [WP_if (c := 1 = 1 ∧ b ≠ 0) hd rfl rfl rfl]; simp only [true_and]
theorem R_goto {off : Int} {tg : Nat} (hd : decode M.2.2.1 pc = .ok (.goto off, 3)) (ht : (pc : Int) + off = (tg : Int)) : WP d M pc ls t h Q = WP d M tg ls t h Q := by
  refine WP_step hd rfl rfl ?_
  simp only [stp, tgt, ht]
  simp
theorem R_jmp {off : Int} {tg : Nat} {i : Instr} {st : List PV} {c : Bool} (ht : (pc : Int) + off = (tg : Int)) (hd : decode M.2.2.1 pc = .ok (i, 3)) (hr : rtn M.2.2.2.2 i 3 st = none) (hc : cll (tbl M.1) i 3 st h = none)
    (hs : stp (tbl M.1) i 3 pc ls st h = mjmp 3 pc off ls t h c) : WP d M pc ls st h Q = if c = true then WP d M tg ls t h Q else WP d M (pc + 3) ls t h Q := by
  have hs2 : stp (tbl M.1) i 3 pc ls st h = some (if c = true then tg else pc + 3, ls, t, h) := by
    rw [hs]; simp [mjmp, tgt, ht]
  rw [WP_step hd hr hc hs2]
  cases c <;> rfl
theorem R_icmp {a b off : Int} {tg : Nat} {c : Jvm.ClassFile.Cond} (hd : decode M.2.2.1 pc = .ok (.if_icmp c off, 3)) (ht : (pc : Int) + off = (tg : Int)) : WP d M pc ls (.inl b :: .inl a :: t) h Q = if mcondB c a b = true then WP d M tg ls t h Q else WP d M (pc + 3) ls t h Q := R_jmp ht hd rfl rfl rfl
theorem R_ifc {a off : Int} {tg : Nat} {c : Jvm.ClassFile.Cond} (hd : decode M.2.2.1 pc = .ok (.ifCond c off, 3)) (ht : (pc : Int) + off = (tg : Int)) : WP d M pc ls (.inl a :: t) h Q = if mcondB c a 0 = true then WP d M tg ls t h Q else WP d M (pc + 3) ls t h Q := R_jmp ht hd rfl rfl rfl
theorem R_icmp_eq {a b off : Int} {tg : Nat} (hd : decode M.2.2.1 pc = .ok (.if_icmp .eq off, 3)) (ht : (pc : Int) + off = (tg : Int)) : WP d M pc ls (.inl b :: .inl a :: t) h Q = if a = b then WP d M tg ls t h Q else WP d M (pc + 3) ls t h Q := by
  rw [R_icmp hd ht]; simp only [mcondB, decide_eq_true_eq]
theorem R_icmp_ne {a b off : Int} {tg : Nat} (hd : decode M.2.2.1 pc = .ok (.if_icmp .ne off, 3)) (ht : (pc : Int) + off = (tg : Int)) : WP d M pc ls (.inl b :: .inl a :: t) h Q = if a = b then WP d M (pc + 3) ls t h Q else WP d M tg ls t h Q := by
  rw [R_icmp hd ht]; simp only [mcondB, decide_eq_true_eq]; by_cases hab : a = b <;> simp [hab]
theorem R_icmp_lt {a b off : Int} {tg : Nat} (hd : decode M.2.2.1 pc = .ok (.if_icmp .lt off, 3)) (ht : (pc : Int) + off = (tg : Int)) : WP d M pc ls (.inl b :: .inl a :: t) h Q = if a < b then WP d M tg ls t h Q else WP d M (pc + 3) ls t h Q := by
  rw [R_icmp hd ht]; simp only [mcondB, decide_eq_true_eq]
theorem R_icmp_ge {a b off : Int} {tg : Nat} (hd : decode M.2.2.1 pc = .ok (.if_icmp .ge off, 3)) (ht : (pc : Int) + off = (tg : Int)) : WP d M pc ls (.inl b :: .inl a :: t) h Q = if a < b then WP d M (pc + 3) ls t h Q else WP d M tg ls t h Q := by
  rw [R_icmp hd ht]; simp only [mcondB, decide_eq_true_eq]
  by_cases hab : a < b
  · rw [if_neg (by omega), if_pos hab]
  · rw [if_pos (by omega), if_neg hab]
theorem R_icmp_gt {a b off : Int} {tg : Nat} (hd : decode M.2.2.1 pc = .ok (.if_icmp .gt off, 3)) (ht : (pc : Int) + off = (tg : Int)) : WP d M pc ls (.inl b :: .inl a :: t) h Q = if b < a then WP d M tg ls t h Q else WP d M (pc + 3) ls t h Q := by
  rw [R_icmp hd ht]; simp only [mcondB, decide_eq_true_eq]
theorem R_icmp_le {a b off : Int} {tg : Nat} (hd : decode M.2.2.1 pc = .ok (.if_icmp .le off, 3)) (ht : (pc : Int) + off = (tg : Int)) : WP d M pc ls (.inl b :: .inl a :: t) h Q = if b < a then WP d M (pc + 3) ls t h Q else WP d M tg ls t h Q := by
  rw [R_icmp hd ht]; simp only [mcondB, decide_eq_true_eq]
  by_cases hab : b < a
  · rw [if_neg (by omega), if_pos hab]
  · rw [if_pos (by omega), if_neg hab]
theorem R_if_eq {a off : Int} {tg : Nat} (hd : decode M.2.2.1 pc = .ok (.ifCond .eq off, 3)) (ht : (pc : Int) + off = (tg : Int)) : WP d M pc ls (.inl a :: t) h Q = if a = 0 then WP d M tg ls t h Q else WP d M (pc + 3) ls t h Q := by
  rw [R_ifc hd ht]; simp only [mcondB, decide_eq_true_eq]
theorem R_if_ne {a off : Int} {tg : Nat} (hd : decode M.2.2.1 pc = .ok (.ifCond .ne off, 3)) (ht : (pc : Int) + off = (tg : Int)) : WP d M pc ls (.inl a :: t) h Q = if a = 0 then WP d M (pc + 3) ls t h Q else WP d M tg ls t h Q := by
  rw [R_ifc hd ht]; simp only [mcondB, decide_eq_true_eq]; by_cases hab : a = 0 <;> simp [hab]
theorem R_if_lt {a off : Int} {tg : Nat} (hd : decode M.2.2.1 pc = .ok (.ifCond .lt off, 3)) (ht : (pc : Int) + off = (tg : Int)) : WP d M pc ls (.inl a :: t) h Q = if a < 0 then WP d M tg ls t h Q else WP d M (pc + 3) ls t h Q := by
  rw [R_ifc hd ht]; simp only [mcondB, decide_eq_true_eq]
theorem R_if_ge {a off : Int} {tg : Nat} (hd : decode M.2.2.1 pc = .ok (.ifCond .ge off, 3)) (ht : (pc : Int) + off = (tg : Int)) : WP d M pc ls (.inl a :: t) h Q = if a < 0 then WP d M (pc + 3) ls t h Q else WP d M tg ls t h Q := by
  rw [R_ifc hd ht]; simp only [mcondB, decide_eq_true_eq]
  by_cases hab : a < 0
  · rw [if_neg (by omega), if_pos hab]
  · rw [if_pos (by omega), if_neg hab]
theorem R_if_gt {a off : Int} {tg : Nat} (hd : decode M.2.2.1 pc = .ok (.ifCond .gt off, 3)) (ht : (pc : Int) + off = (tg : Int)) : WP d M pc ls (.inl a :: t) h Q = if 0 < a then WP d M tg ls t h Q else WP d M (pc + 3) ls t h Q := by
  rw [R_ifc hd ht]; simp only [mcondB, decide_eq_true_eq]
theorem R_if_le {a off : Int} {tg : Nat} (hd : decode M.2.2.1 pc = .ok (.ifCond .le off, 3)) (ht : (pc : Int) + off = (tg : Int)) : WP d M pc ls (.inl a :: t) h Q = if 0 < a then WP d M (pc + 3) ls t h Q else WP d M tg ls t h Q := by
  rw [R_ifc hd ht]; simp only [mcondB, decide_eq_true_eq]
  by_cases hab : 0 < a
  · rw [if_neg (by omega), if_pos hab]
  · rw [if_pos (by omega), if_neg hab]
theorem R_ifnull {a : Nat} {off : Int} {tg : Nat} (hd : decode M.2.2.1 pc = .ok (.ifnull off, 3)) (ht : (pc : Int) + off = (tg : Int)) : WP d M pc ls (.inr (.inr a) :: t) h Q = ((a = 0 ∨ 200 ≤ a) ∧ if a = 0 then WP d M tg ls t h Q else WP d M (pc + 3) ls t h Q) := by
  by_cases hc : a = 0 ∨ 200 ≤ a
  · rw [R_jmp (c := decide (a = 0) == true) (t := t) ht hd rfl rfl (by simp only [stp, mnul]; rw [if_pos hc])]; simp [hc]
  · rw [WP_nocall hd rfl rfl (by simp only [stp, mnul]; rw [if_neg hc])]; simp [hc]
theorem R_ifnonnull {a : Nat} {off : Int} {tg : Nat} (hd : decode M.2.2.1 pc = .ok (.ifnonnull off, 3)) (ht : (pc : Int) + off = (tg : Int)) : WP d M pc ls (.inr (.inr a) :: t) h Q = ((a = 0 ∨ 200 ≤ a) ∧ if a = 0 then WP d M (pc + 3) ls t h Q else WP d M tg ls t h Q) := by
  by_cases hc : a = 0 ∨ 200 ≤ a
  · rw [R_jmp (c := decide (a = 0) == false) (t := t) ht hd rfl rfl (by simp only [stp, mnul]; rw [if_pos hc])]
    by_cases ha : a = 0
    · simp [ha]
    · simp [ha, hc]
      intro h2; omega
  · rw [WP_nocall hd rfl rfl (by simp only [stp, mnul]; rw [if_neg hc])]; simp [hc]
theorem R_acmp_ne {a b : Nat} {off : Int} {tg : Nat} (hd : decode M.2.2.1 pc = .ok (.if_acmp .ne off, 3)) (ht : (pc : Int) + off = (tg : Int)) : WP d M pc ls (.inr (.inr b) :: .inr (.inr a) :: t) h Q = ((200 ≤ a ∧ 200 ≤ b) ∧ if a = b then WP d M (pc + 3) ls t h Q else WP d M tg ls t h Q) := by
  by_cases hc : 200 ≤ a ∧ 200 ≤ b
  · rw [R_jmp (c := decide (a ≠ b)) (t := t) ht hd rfl rfl (by simp only [stp, macmp]; rw [if_pos hc])]
    by_cases hab : a = b <;> simp [hab, hc]
  · rw [WP_nocall hd rfl rfl (by simp [stp, macmp, hc])]
    simp [hc]
/-- where a switch leads -/
def tabT (pc : Nat) (df lo hi : Int) (offs : List Int) (x : Int) : Nat := if x < lo ∨ hi < x then tgt pc df else tgt pc (offs.getD (x - lo).toNat 0)
theorem R_tab {df lo hi x : Int} {offs : Array Int} {len : Nat} (hd : decode M.2.2.1 pc = .ok (.tableswitch df lo hi offs, len)) (h0 : 0 ≤ (pc : Int) + df) (h1 : lo ≤ hi → (hi - lo).toNat < offs.size) (h2 : ∀ o ∈ offs.toList, 0 ≤ (pc : Int) + o) :
    WP d M pc ls (.inl x :: t) h Q = WP d M (tabT pc df lo hi offs.toList x) ls t h Q := by
  refine WP_step hd rfl rfl ?_
  simp only [stp, mtab, tabT]
  by_cases hx : x < lo ∨ hi < x
  · simp [hx, h0]
  · rw [if_neg hx, if_neg hx]
    have hlt : (x - lo).toNat < offs.size := by
      have := h1 (by omega)
      omega
    have e : offs[(x - lo).toNat]? = some offs[(x - lo).toNat] := Array.getElem?_eq_getElem hlt
    rw [e]
    have e2 : offs.toList.getD (x - lo).toNat 0 = offs[(x - lo).toNat] := by
      simp [List.getD, hlt]
    rw [e2]
    have := h2 offs[(x - lo).toNat] (by simp)
    simp [this]
theorem R_get0 {a k ci j bl : Nat} {f : Bool} (hd : decode M.2.2.1 pc = .ok (.getfield k, 3)) (hl : lk (tbl M.1).1 k = some (ci, j, 0, bl, f)) : WP d M pc ls (.inr (.inr a) :: t) h Q = ((hK h a).1 = ci ∧ WP d M (pc + 3) ls (.inl (hI h a j) :: t) h Q) := by
  rw [WP_if (c := (hK h a).1 = ci) (pc' := pc + 3) (ls' := ls) (st' := .inl (hI h a j) :: t) (h' := h) hd rfl rfl (by simp [stp, hl, mget, mvl])]
theorem R_get1 {a k ci j bl : Nat} {f : Bool} (hd : decode M.2.2.1 pc = .ok (.getfield k, 3)) (hl : lk (tbl M.1).1 k = some (ci, j, 1, bl, f)) : WP d M pc ls (.inr (.inr a) :: t) h Q = ((hK h a).1 = ci ∧ WP d M (pc + 3) ls (.inr (.inl (hJ h a j)) :: t) h Q) := by
  rw [WP_if (c := (hK h a).1 = ci) (pc' := pc + 3) (ls' := ls) (st' := .inr (.inl (hJ h a j)) :: t) (h' := h) hd rfl rfl (by simp [stp, hl, mget, mvl])]
theorem R_get2 {a k ci j bl : Nat} {f : Bool} (hd : decode M.2.2.1 pc = .ok (.getfield k, 3)) (hl : lk (tbl M.1).1 k = some (ci, j, 2, bl, f)) : WP d M pc ls (.inr (.inr a) :: t) h Q = ((hK h a).1 = ci ∧ WP d M (pc + 3) ls (.inr (.inr (hR h a j)) :: t) h Q) := by
  rw [WP_if (c := (hK h a).1 = ci) (pc' := pc + 3) (ls' := ls) (st' := .inr (.inr (hR h a j)) :: t) (h' := h) hd rfl rfl (by simp [stp, hl, mget, mvl])]
theorem R_put0 {a k ci j : Nat} {v : Int} (hd : decode M.2.2.1 pc = .ok (.putfield k, 3)) (hl : lk (tbl M.1).1 k = some (ci, j, 0, 0, false)) : WP d M pc ls (.inl v :: .inr (.inr a) :: t) h Q = ((hK h a).1 = ci ∧ 200 ≤ a ∧ WP d M (pc + 3) ls t (wI h a j v) Q) := by
  rw [WP_if (c := (hK h a).1 = ci ∧ 200 ≤ a) (pc' := pc + 3) (ls' := ls) (st' := t) (h' := wI h a j v) hd rfl rfl (by simp [stp, hl, mput])]; simp only [and_assoc]
theorem R_putZ {a k ci j : Nat} {v : Int} (hd : decode M.2.2.1 pc = .ok (.putfield k, 3)) (hl : lk (tbl M.1).1 k = some (ci, j, 0, 1, false)) : WP d M pc ls (.inl v :: .inr (.inr a) :: t) h Q = ((hK h a).1 = ci ∧ 200 ≤ a ∧ (v = 0 ∨ v = 1) ∧ WP d M (pc + 3) ls t (wI h a j v) Q) := by
  rw [WP_if (c := (hK h a).1 = ci ∧ 200 ≤ a ∧ (v = 0 ∨ v = 1)) (pc' := pc + 3) (ls' := ls) (st' := t) (h' := wI h a j v) hd rfl rfl (by simp [stp, hl, mput])]; simp only [and_assoc]
theorem R_put1 {a k ci j bl : Nat} {v : Int} (hd : decode M.2.2.1 pc = .ok (.putfield k, 3)) (hl : lk (tbl M.1).1 k = some (ci, j, 1, bl, false)) : WP d M pc ls (.inr (.inl v) :: .inr (.inr a) :: t) h Q = ((hK h a).1 = ci ∧ 200 ≤ a ∧ WP d M (pc + 3) ls t (wJ h a j v) Q) := by
  rw [WP_if (c := (hK h a).1 = ci ∧ 200 ≤ a) (pc' := pc + 3) (ls' := ls) (st' := t) (h' := wJ h a j v) hd rfl rfl (by simp [stp, hl, mput])]; simp only [and_assoc]
theorem R_put2 {a k ci j bl v : Nat} (hd : decode M.2.2.1 pc = .ok (.putfield k, 3)) (hl : lk (tbl M.1).1 k = some (ci, j, 2, bl, false)) : WP d M pc ls (.inr (.inr v) :: .inr (.inr a) :: t) h Q = ((hK h a).1 = ci ∧ 200 ≤ a ∧ WP d M (pc + 3) ls t (wR h a j v) Q) := by
  rw [WP_if (c := (hK h a).1 = ci ∧ 200 ≤ a) (pc' := pc + 3) (ls' := ls) (st' := t) (h' := wR h a j v) hd rfl rfl (by simp [stp, hl, mput])]; simp only [and_assoc]
theorem R_iald {a : Nat} {z : Int} (hd : decode M.2.2.1 pc = .ok (.iaload, 1)) : WP d M pc ls (.inl z :: .inr (.inr a) :: t) h Q = ((hK h a).1 = 21 ∧ 0 ≤ z ∧ z < (hK h a).2 ∧ WP d M (pc + 1) ls (.inl (hI h a z.toNat) :: t) h Q) := by
  rw [WP_if (c := (hK h a).1 = 21 ∧ 0 ≤ z ∧ z < (hK h a).2) (pc' := pc + 1) (ls' := ls) (st' := .inl (hI h a z.toNat) :: t) (h' := h) hd rfl rfl (by simp [stp, mald])]; simp only [and_assoc]
theorem R_bald {a : Nat} {z : Int} (hd : decode M.2.2.1 pc = .ok (.baload, 1)) : WP d M pc ls (.inl z :: .inr (.inr a) :: t) h Q = (((hK h a).1 = 20 ∨ (hK h a).1 = 23) ∧ 0 ≤ z ∧ z < (hK h a).2 ∧ WP d M (pc + 1) ls (.inl (hI h a z.toNat) :: t) h Q) := by
  rw [WP_if (c := ((hK h a).1 = 20 ∨ (hK h a).1 = 23) ∧ 0 ≤ z ∧ z < (hK h a).2) (pc' := pc + 1) (ls' := ls) (st' := .inl (hI h a z.toNat) :: t) (h' := h) hd rfl rfl (by simp [stp, mald])]; simp only [and_assoc]
theorem R_lald {a : Nat} {z : Int} (hd : decode M.2.2.1 pc = .ok (.laload, 1)) : WP d M pc ls (.inl z :: .inr (.inr a) :: t) h Q = ((hK h a).1 = 22 ∧ 0 ≤ z ∧ z < (hK h a).2 ∧ WP d M (pc + 1) ls (.inr (.inl (hJ h a z.toNat)) :: t) h Q) := by
  rw [WP_if (c := (hK h a).1 = 22 ∧ 0 ≤ z ∧ z < (hK h a).2) (pc' := pc + 1) (ls' := ls) (st' := .inr (.inl (hJ h a z.toNat)) :: t) (h' := h) hd rfl rfl (by simp [stp, mald])]; simp only [and_assoc]
theorem R_aald {a : Nat} {z : Int} (hd : decode M.2.2.1 pc = .ok (.aaload, 1)) : WP d M pc ls (.inl z :: .inr (.inr a) :: t) h Q = (((hK h a).1 = 24 ∨ (hK h a).1 = 25 ∨ (hK h a).1 = 26) ∧ 0 ≤ z ∧ z < (hK h a).2 ∧ WP d M (pc + 1) ls (.inr (.inr (hR h a z.toNat)) :: t) h Q) := by
  rw [WP_if (c := ((hK h a).1 = 24 ∨ (hK h a).1 = 25 ∨ (hK h a).1 = 26) ∧ 0 ≤ z ∧ z < (hK h a).2) (pc' := pc + 1) (ls' := ls) (st' := .inr (.inr (hR h a z.toNat)) :: t) (h' := h) hd rfl rfl (by simp [stp, mald])]; simp only [and_assoc]
theorem R_iast {a : Nat} {z v : Int} (hd : decode M.2.2.1 pc = .ok (.iastore, 1)) : WP d M pc ls (.inl v :: .inl z :: .inr (.inr a) :: t) h Q = (200 ≤ a ∧ (hK h a).1 = 21 ∧ 0 ≤ z ∧ z < (hK h a).2 ∧ WP d M (pc + 1) ls t (wI h a z.toNat v) Q) := by
  rw [WP_if (c := 1 = 1 ∧ 200 ≤ a ∧ (hK h a).1 = 21 ∧ 0 ≤ z ∧ z < (hK h a).2) hd rfl rfl rfl]; simp [and_assoc]
theorem R_bastB {a : Nat} {z v : Int} (hd : decode M.2.2.1 pc = .ok (.bastore, 1)) (hk : (hK h a).1 = 20) : WP d M pc ls (.inl v :: .inl z :: .inr (.inr a) :: t) h Q = (200 ≤ a ∧ 0 ≤ z ∧ z < (hK h a).2 ∧ WP d M (pc + 1) ls t (wI h a z.toNat (w8 v)) Q) := by
  rw [WP_if (c := 200 ≤ a ∧ 0 ≤ z ∧ z < (hK h a).2) (pc' := pc + 1) (ls' := ls) (st' := t) (h' := wI h a z.toNat (w8 v)) hd rfl rfl (by simp [stp, mbast, hk])]; simp only [and_assoc]
theorem R_bastZ {a : Nat} {z v : Int} (hd : decode M.2.2.1 pc = .ok (.bastore, 1)) (hk : (hK h a).1 = 23) : WP d M pc ls (.inl v :: .inl z :: .inr (.inr a) :: t) h Q = (200 ≤ a ∧ 0 ≤ z ∧ z < (hK h a).2 ∧ (v = 0 ∨ v = 1) ∧ WP d M (pc + 1) ls t (wI h a z.toNat v) Q) := by
  rw [WP_if (c := 200 ≤ a ∧ 0 ≤ z ∧ z < (hK h a).2 ∧ (v = 0 ∨ v = 1)) (pc' := pc + 1) (ls' := ls) (st' := t) (h' := wI h a z.toNat v) hd rfl rfl (by simp [stp, mbast, hk])]; simp only [and_assoc]
theorem R_last {a : Nat} {z v : Int} (hd : decode M.2.2.1 pc = .ok (.lastore, 1)) : WP d M pc ls (.inr (.inl v) :: .inl z :: .inr (.inr a) :: t) h Q = (200 ≤ a ∧ (hK h a).1 = 22 ∧ 0 ≤ z ∧ z < (hK h a).2 ∧ WP d M (pc + 1) ls t (wJ h a z.toNat v) Q) := by
  rw [WP_if (c := 1 = 1 ∧ 200 ≤ a ∧ (hK h a).1 = 22 ∧ 0 ≤ z ∧ z < (hK h a).2) hd rfl rfl rfl]; simp [and_assoc]
theorem R_aast {a v : Nat} {z : Int} (hd : decode M.2.2.1 pc = .ok (.aastore, 1)) : WP d M pc ls (.inr (.inr v) :: .inl z :: .inr (.inr a) :: t) h Q = (200 ≤ a ∧ 200 ≤ v ∧ ((hK h a).1 = 24 ∨ (hK h a).1 = 25 ∨ (hK h a).1 = 26) ∧ (hK h v).1 = elC (hK h a).1 ∧ 0 ≤ z ∧ z < (hK h a).2 ∧ WP d M (pc + 1) ls t (wR h a z.toNat v) Q) := by
  rw [WP_if (c := 1 = 1 ∧ 200 ≤ a ∧ 200 ≤ v ∧ ((hK h a).1 = 24 ∨ (hK h a).1 = 25 ∨ (hK h a).1 = 26) ∧ (hK h v).1 = elC (hK h a).1 ∧ 0 ≤ z ∧ z < (hK h a).2) hd rfl rfl rfl]; simp [and_assoc]
theorem R_alen {a : Nat} (hd : decode M.2.2.1 pc = .ok (.arraylength, 1)) : WP d M pc ls (.inr (.inr a) :: t) h Q = ((20 ≤ (hK h a).1 ∧ (hK h a).1 ≤ 26) ∧ WP d M (pc + 1) ls (.inl (hK h a).2 :: t) h Q) := by
  rw [WP_if (c := 1 = 1 ∧ 20 ≤ (hK h a).1 ∧ (hK h a).1 ≤ 26) hd rfl rfl rfl]; simp only [true_and]
theorem R_new {k ci n : Nat} (hd : decode M.2.2.1 pc = .ok (.new k, 3)) (hl : lk (tbl M.1).2.2.2.1 k = some (ci, n)) : WP d M pc ls t h Q = WP d M (pc + 3) ls (.inr (.inr (200 + hN h)) :: t) (nw h ci 0 n) Q := by
  refine WP_step hd rfl rfl ?_
  simp only [stp, hl, mnew]; rfl
theorem R_nwa {z : Int} {at' : Jvm.ClassFile.ArrayType} {c : Nat} (hd : decode M.2.2.1 pc = .ok (.newarray at', 2)) (hc : nwaC at' = c) (hc9 : c ≠ 99) : WP d M pc ls (.inl z :: t) h Q = ((0 ≤ z ∧ z ≤ 100000) ∧ WP d M (pc + 2) ls (.inr (.inr (200 + hN h)) :: t) (nw h c z.toNat z.toNat) Q) := by
  subst hc
  rw [WP_if (c := 0 ≤ z ∧ z ≤ 100000) (pc' := pc + 2) (ls' := ls) (st' := .inr (.inr (200 + hN h)) :: t) (h' := nw h (nwaC at') z.toNat z.toNat) hd rfl rfl (by simp [stp, hc9, mnwa])]
theorem R_anwa {z : Int} {k c : Nat} (hd : decode M.2.2.1 pc = .ok (.anewarray k, 3)) (hl : lk (tbl M.1).2.2.2.2.1 k = some c) : WP d M pc ls (.inl z :: t) h Q = ((0 ≤ z ∧ z ≤ 100000) ∧ WP d M (pc + 3) ls (.inr (.inr (200 + hN h)) :: t) (nw h c z.toNat z.toNat) Q) := by
  rw [WP_if (c := 0 ≤ z ∧ z ≤ 100000) (pc' := pc + 3) (ls' := ls) (st' := .inr (.inr (200 + hN h)) :: t) (h' := nw h c z.toNat z.toNat) hd rfl rfl (by simp [stp, hl, mnwa])]
theorem R_iret {z : Int} (hd : decode M.2.2.1 pc = .ok (.ireturn, 1)) (hr : M.2.2.2.2 = some .int) : WP d M pc ls [.inl z] h Q = Q (some (.inl z)) h := WP_ret hd (by rw [hr]; rfl)
theorem R_zret {z : Int} (hd : decode M.2.2.1 pc = .ok (.ireturn, 1)) (hr : M.2.2.2.2 = some .boolean) : WP d M pc ls [.inl z] h Q = ((z = 0 ∨ z = 1) ∧ Q (some (.inl z)) h) := by
  by_cases hz : z = 0 ∨ z = 1
  · rw [WP_ret hd (r := some (.inl z)) (by rw [hr]; simp [rtn, rokB, hz])]; simp [hz]
  · rw [WP_nocall hd (by rw [hr]; simp [rtn, rokB, hz]) rfl rfl]; simp [hz]
theorem R_cret {z : Int} (hd : decode M.2.2.1 pc = .ok (.ireturn, 1)) (hr : M.2.2.2.2 = some .char) : WP d M pc ls [.inl z] h Q = ((0 ≤ z ∧ z ≤ 65535) ∧ Q (some (.inl z)) h) := by
  by_cases hz : 0 ≤ z ∧ z ≤ 65535
  · rw [WP_ret hd (r := some (.inl z)) (by rw [hr]; simp [rtn, rokB, hz])]; simp [hz]
  · rw [WP_nocall hd (by rw [hr]; simp [rtn, rokB, hz]) rfl rfl]; simp [hz]
theorem R_bret {z : Int} (hd : decode M.2.2.1 pc = .ok (.ireturn, 1)) (hr : M.2.2.2.2 = some .byte) : WP d M pc ls [.inl z] h Q = ((-128 ≤ z ∧ z ≤ 127) ∧ Q (some (.inl z)) h) := by
  by_cases hz : -128 ≤ z ∧ z ≤ 127
  · rw [WP_ret hd (r := some (.inl z)) (by rw [hr]; simp [rtn, rokB, hz])]; simp [hz]
  · rw [WP_nocall hd (by rw [hr]; simp [rtn, rokB, hz]) rfl rfl]; simp [hz]
theorem R_lret {z : Int} (hd : decode M.2.2.1 pc = .ok (.lreturn, 1)) (hr : M.2.2.2.2 = some .long) : WP d M pc ls [.inr (.inl z)] h Q = Q (some (.inr (.inl z))) h := WP_ret hd (by rw [hr]; rfl)
theorem R_aret {a : Nat} (hd : decode M.2.2.1 pc = .ok (.areturn, 1)) (hr : isRf M.2.2.2.2 = true) : WP d M pc ls [.inr (.inr a)] h Q = Q (some (.inr (.inr a))) h := WP_ret hd (by simp [rtn, hr])
theorem R_vret (hd : decode M.2.2.1 pc = .ok (.return_, 1)) (hr : M.2.2.2.2 = none) : WP d M pc ls [] h Q = Q none h := WP_ret hd (by rw [hr]; rfl)
theorem R_obj {a k n : Nat} {M' : Me} (hd : decode M.2.2.1 pc = .ok (.invokespecial k, 3)) (hl : lk (tbl M.1).2.1 k = some (8, n, M')) (ht : okr t = true) : WP d M pc ls (.inr (.inr a) :: t) h Q = (200 ≤ a ∧ WP d M (pc + 3) ls t h Q) := by
  rw [WP_if (c := 200 ≤ a) (pc' := pc + 3) (ls' := ls) (st' := t) (h' := h) hd rfl (by simp only [cll, hl]; split <;> simp) (by simp [stp, hl, mobj, ht])]
theorem R_cpy {k n' : Nat} {M' : Me} {n dp sp : Int} {s d' : Nat} (hd : decode M.2.2.1 pc = .ok (.invokestatic k, 3)) (hl : lk (tbl M.1).2.1 k = some (9, n', M')) (ht : okr t = true) : WP d M pc ls (.inl n :: .inl dp :: .inr (.inr d') :: .inl sp :: .inr (.inr s) :: t) h Q = ((200 ≤ s ∧ 200 ≤ d' ∧ (hK h s).1 = 21 ∧ (hK h d').1 = 21 ∧ 0 ≤ n ∧ 0 ≤ sp ∧ 0 ≤ dp ∧ sp + n ≤ (hK h s).2 ∧ dp + n ≤ (hK h d').2) ∧ WP d M (pc + 3) ls t (cpI h s sp.toNat d' dp.toNat n.toNat) Q) := by
  rw [WP_if (c := 200 ≤ s ∧ 200 ≤ d' ∧ (hK h s).1 = 21 ∧ (hK h d').1 = 21 ∧ 0 ≤ n ∧ 0 ≤ sp ∧ 0 ≤ dp ∧ sp + n ≤ (hK h s).2 ∧ dp + n ≤ (hK h d').2) (pc' := pc + 3) (ls' := ls) (st' := t) (h' := cpI h s sp.toNat d' dp.toNat n.toNat) hd rfl (by simp [cll, hl]) (by simp [stp, hl, mcpy, ht])]
theorem R_callV {st as rest : List PV} {a k kd n : Nat} {M' : Me} {u : List PV} (hd : decode M.2.2.1 pc = .ok (.invokevirtual k, 3)) (hl : lk (tbl M.1).2.1 k = some (kd, n, M')) (h1 : kd ≤ 1) (h2 : 1 ≤ n) (h3 : st.drop (n - 1) = .inr (.inr a) :: u) (h4 : okr (st.drop n) = true) (h5 : (exl (st.take n).reverse).length ≤ M'.2.2.2.1) (e1 : st.take n = as) (e2 : st.drop n = rest) {en : List (Option PV)} (e3 : ent M'.2.2.2.1 as = en) :
    WP (d + 1) M pc ls st h Q = ((hK h a).1 = M'.1 ∧ WP d M' 0 en [] h (fun r h' => WP (d + 1) M (pc + 3) ls (psh r rest) h' Q)) := by
  subst e1 e2 e3
  by_cases hk : (hK h a).1 = M'.1
  · rw [WP_call (M' := M') (as := st.take n) (rest := st.drop n) hd rfl (by simp only [cll, hl, h3]; rw [if_pos (by simp only [h1, h2, h4, h5, hk, and_self])])]; simp only [hk, true_and]
  · rw [WP_nocall hd rfl (by simp [cll, hl, h3, hk]) rfl]; simp [hk]
theorem R_callI {st as rest : List PV} {a k kd n : Nat} {M' : Me} {u : List PV} (hd : decode M.2.2.1 pc = .ok (.invokespecial k, 3)) (hl : lk (tbl M.1).2.1 k = some (kd, n, M')) (h1 : kd = 2 ∨ kd = 3) (h2 : 1 ≤ n) (h3 : st.drop (n - 1) = .inr (.inr a) :: u) (h4 : okr (st.drop n) = true) (h5 : (exl (st.take n).reverse).length ≤ M'.2.2.2.1) (e1 : st.take n = as) (e2 : st.drop n = rest) {en : List (Option PV)} (e3 : ent M'.2.2.2.1 as = en) :
    WP (d + 1) M pc ls st h Q = (200 ≤ a ∧ WP d M' 0 en [] h (fun r h' => WP (d + 1) M (pc + 3) ls (psh r rest) h' Q)) := by
  subst e1 e2 e3
  by_cases hk : 200 ≤ a
  · rw [WP_call (M' := M') (as := st.take n) (rest := st.drop n) hd rfl (by simp only [cll, hl, h3]; rw [if_pos (by simp only [h1, h2, h4, h5, hk, and_self])])]; simp only [hk, true_and]
  · rw [WP_nocall hd rfl (by simp [cll, hl, h3, hk]) (by simp only [stp, hl]; rcases h1 with rfl | rfl <;> rfl)]; simp [hk]
theorem R_callS {st as rest : List PV} {k kd n : Nat} {M' : Me} (hd : decode M.2.2.1 pc = .ok (.invokestatic k, 3)) (hl : lk (tbl M.1).2.1 k = some (kd, n, M')) (h1 : kd = 4 ∨ kd = 5) (h2 : n ≤ st.length) (h4 : okr (st.drop n) = true) (h5 : (exl (st.take n).reverse).length ≤ M'.2.2.2.1) (e1 : st.take n = as) (e2 : st.drop n = rest) {en : List (Option PV)} (e3 : ent M'.2.2.2.1 as = en) :
    WP (d + 1) M pc ls st h Q = WP d M' 0 en [] h (fun r h' => WP (d + 1) M (pc + 3) ls (psh r rest) h' Q) := by
  subst e1 e2 e3
  rw [WP_call (M' := M') (as := st.take n) (rest := st.drop n) hd rfl (by simp only [cll, hl]; rw [if_pos (by simp only [h1, h2, h4, h5, and_self])])]
end Rules
