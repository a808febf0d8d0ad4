/-- the pure machine: n steps at most, calls d deep at most -/
def ex : Nat → Nat → Me → Nat → List (Option PV) → List PV → Hp → Option (Option PV × Hp)
  | 0, _, _, _, _, _, _ => none
  | n + 1, d, M, pc, ls, st, h => match decode M.2.2.1 pc with
    | .error _ => none
    | .ok (i, len) => match rtn M.2.2.2.2 i len st with
      | some r => some (r, h)
      | none => match cll (tbl M.1) i len st h with
        | some (M', as, rest) => match d with
          | 0 => none
          | d' + 1 => match ex n d' M' 0 (ent M'.2.2.2.1 as) [] h with
            | some (r, h') => ex n (d' + 1) M (pc + 3) ls (psh r rest) h'
            | none => none
        | none => match stp (tbl M.1) i len pc ls st h with
          | some (pc', ls', st', h') => ex n d M pc' ls' st' h'
          | none => none
def WP (d : Nat) (M : Me) (pc : Nat) (ls : List (Option PV)) (st : List PV) (h : Hp) (Q : Option PV → Hp → Prop) : Prop := ∃ (n : Nat) (r : Option PV) (h' : Hp), ex n d M pc ls st h = some (r, h') ∧ Q r h'
theorem ex_succ (n : Nat) : ∀ (d : Nat) (M : Me) (pc : Nat) (ls : List (Option PV)) (st : List PV) (h : Hp) (x : Option PV × Hp), ex n d M pc ls st h = some x → ex (n + 1) d M pc ls st h = some x := by
  induction n with
  | zero => intro d M pc ls st h x hx; simp [ex] at hx
  | succ n ih =>
    intro d M pc ls st h x hx
    unfold ex at hx ⊢
    split at hx
    · exact absurd hx (by simp)
    · rename_i i len hd
      split at hx
      · exact hx
      · split at hx
        · rename_i M' as rest hc
          split at hx
          · exact absurd hx (by simp)
          · rename_i d'
            split at hx
            · rename_i r h' hcl
              rw [ih _ _ _ _ _ _ _ hcl]
              exact ih _ _ _ _ _ _ _ hx
            · exact absurd hx (by simp)
        · split at hx
          · exact ih _ _ _ _ _ _ _ hx
          · exact absurd hx (by simp)
theorem ex_mono {n m : Nat} (hnm : n ≤ m) {d : Nat} {M : Me} {pc : Nat} {ls : List (Option PV)} {st : List PV} {h : Hp} {x : Option PV × Hp} (hx : ex n d M pc ls st h = some x) : ex m d M pc ls st h = some x := by
  induction hnm with
  | refl => exact hx
  | step _ ih => exact ex_succ _ _ _ _ _ _ _ _ ih
section Rules
variable {d : Nat} {M : Me} {pc len : Nat} {i : Instr} {ls : List (Option PV)} {st : List PV} {h : Hp} {Q : Option PV → Hp → Prop}
theorem WP_step {pc' : Nat} {ls' : List (Option PV)} {st' : List PV} {h' : Hp} (hd : decode M.2.2.1 pc = .ok (i, len)) (hr : rtn M.2.2.2.2 i len st = none) (hc : cll (tbl M.1) i len st h = none)
    (hs : stp (tbl M.1) i len pc ls st h = some (pc', ls', st', h')) : WP d M pc ls st h Q = WP d M pc' ls' st' h' Q := by
  apply propext
  constructor
  · rintro ⟨n, r, hh, he, hq⟩
    cases n with
    | zero => simp [ex] at he
    | succ n =>
      simp only [ex, hd, hr, hc, hs] at he
      exact ⟨n, r, hh, he, hq⟩
  · rintro ⟨n, r, hh, he, hq⟩
    refine ⟨n + 1, r, hh, ?_, hq⟩
    simp only [ex, hd, hr, hc, hs]
    exact he
theorem WP_no (hd : decode M.2.2.1 pc = .ok (i, len)) (hr : rtn M.2.2.2.2 i len st = none) (hc : cll (tbl M.1) i len st h = none)
    (hs : stp (tbl M.1) i len pc ls st h = none) : ¬ WP d M pc ls st h Q := by
  rintro ⟨n, r, hh, he, hq⟩
  cases n with
  | zero => simp [ex] at he
  | succ n => simp [ex, hd, hr, hc, hs] at he
theorem WP_if {c : Prop} [Decidable c] {pc' : Nat} {ls' : List (Option PV)} {st' : List PV} {h' : Hp} (hd : decode M.2.2.1 pc = .ok (i, len)) (hr : rtn M.2.2.2.2 i len st = none) (hc : cll (tbl M.1) i len st h = none)
    (hs : stp (tbl M.1) i len pc ls st h = if c then some (pc', ls', st', h') else none) : WP d M pc ls st h Q = (c ∧ WP d M pc' ls' st' h' Q) := by
  by_cases hcc : c
  · rw [if_pos hcc] at hs
    rw [WP_step hd hr hc hs]
    simp [hcc]
  · rw [if_neg hcc] at hs
    simp only [eq_iff_iff]
    exact ⟨fun w => absurd w (WP_no hd hr hc hs), fun w => absurd w.1 hcc⟩
theorem WP_ret {r : Option PV} (hd : decode M.2.2.1 pc = .ok (i, len)) (hr : rtn M.2.2.2.2 i len st = some r) : WP d M pc ls st h Q = Q r h := by
  apply propext
  constructor
  · rintro ⟨n, r', hh, he, hq⟩
    cases n with
    | zero => simp [ex] at he
    | succ n =>
      simp only [ex, hd, hr, Option.some.injEq, Prod.mk.injEq] at he
      rw [he.1, he.2]
      exact hq
  · intro hq
    exact ⟨1, r, h, by simp [ex, hd, hr], hq⟩
theorem WP_call {M' : Me} {as rest : List PV} (hd : decode M.2.2.1 pc = .ok (i, len)) (hr : rtn M.2.2.2.2 i len st = none) (hc : cll (tbl M.1) i len st h = some (M', as, rest)) :
    WP (d + 1) M pc ls st h Q = WP d M' 0 (ent M'.2.2.2.1 as) [] h (fun r h' => WP (d + 1) M (pc + 3) ls (psh r rest) h' Q) := by
  apply propext
  constructor
  · rintro ⟨n, r, hh, he, hq⟩
    cases n with
    | zero => simp [ex] at he
    | succ n =>
      simp only [ex, hd, hr, hc] at he
      split at he
      · rename_i r1 h1 hcl
        exact ⟨n, r1, h1, hcl, n, r, hh, he, hq⟩
      · exact absurd he (by simp)
  · rintro ⟨n, r1, h1, hcl, n2, r, hh, he, hq⟩
    refine ⟨max n n2 + 1, r, hh, ?_, hq⟩
    simp only [ex, hd, hr, hc]
    rw [ex_mono (Nat.le_max_left n n2) hcl]
    exact ex_mono (Nat.le_max_right n n2) he
theorem WP_nocall (hd : decode M.2.2.1 pc = .ok (i, len)) (hr : rtn M.2.2.2.2 i len st = none) (hc : cll (tbl M.1) i len st h = none)
    (hs : stp (tbl M.1) i len pc ls st h = none) : WP d M pc ls st h Q = False := eq_false (WP_no hd hr hc hs)
theorem WP_mono {Q' : Option PV → Hp → Prop} (hw : WP d M pc ls st h Q) (hq : ∀ r h', Q r h' → Q' r h') : WP d M pc ls st h Q' := by
  obtain ⟨n, r, h', he, q⟩ := hw
  exact ⟨n, r, h', he, hq _ _ q⟩
end Rules
