/-! laws: lists of codes, as the reference has them; a pile of numbers; what a code does to it -/
def bin (c l r : Int) : Int := if c = 3000 then clampI (l + r) (-1000000) 1000000 else if c = 3001 then clampI (l - r) (-1000000) 1000000 else if c = 3002 then clampI (l * r) (-1000000) 1000000 else if c = 3003 then (if l = r then 1 else 0) else if c = 3004 then (if l < r then 1 else 0) else if c = 3005 then (if r < l then 1 else 0) else if c = 3007 then iand l r else ior l r
def cstep (env : Nat → Int) (c : Int) (s : List Int) : List Int :=
  if c < 1000 then c :: s else if c < 3000 then env (c - 1000).toNat :: s
  else if c = 3006 then (1 - s.getD 0 0) :: s.drop 1
  else if c = 3009 then (if s.getD 2 0 = 1 then s.getD 1 0 else s.getD 0 0) :: s.drop 3
  else bin c (s.getD 1 0) (s.getD 0 0) :: s.drop 2
def crun (env : Nat → Int) (cs : List Int) (s : List Int) : List Int := match cs with
  | [] => s
  | c :: t => crun env t (cstep env c s)
/-- the kinds on the pile: true a truth, false a number; none: a code that can't stand there -/
def tstep (w : Nat) (c : Int) (ts : List Bool) : Option (List Bool) :=
  if 0 ≤ c ∧ c < 1000 + (w : Int) then (if ts.length < 64 then some (false :: ts) else none)
  else if 3000 ≤ c ∧ c ≤ 3002 then match ts with
    | false :: false :: t => some (false :: t)
    | _ => none
  else if 3003 ≤ c ∧ c ≤ 3005 then match ts with
    | false :: false :: t => some (true :: t)
    | _ => none
  else if c = 3006 then match ts with
    | true :: t => some (true :: t)
    | _ => none
  else if c = 3007 ∨ c = 3008 then match ts with
    | true :: true :: t => some (true :: t)
    | _ => none
  else if c = 3009 then match ts with
    | false :: false :: true :: t => some (false :: t)
    | _ => none
  else none
def trun (w : Nat) (cs : List Int) (ts : List Bool) : Option (List Bool) := match cs with
  | [] => some ts
  | c :: t => match tstep w c ts with
    | some ts' => trun w t ts'
    | none => none
theorem trun_app (w : Nat) (a b : List Int) : ∀ ts, trun w (a ++ b) ts = match trun w a ts with
    | some ts' => trun w b ts'
    | none => none := by
  induction a with
  | nil => intro ts; rfl
  | cons c a ih =>
    intro ts
    simp only [List.cons_append, trun]
    cases tstep w c ts with
    | none => rfl
    | some ts' => exact ih ts'
theorem crun_app (env : Nat → Int) (a b : List Int) : ∀ s, crun env (a ++ b) s = crun env b (crun env a s) := by
  induction a with
  | nil => intro s; rfl
  | cons c a ih => intro s; exact ih _
/-- a number of a kind: small; a truth: 0 or 1 -/
def vok (t : Bool) (v : Int) : Prop := -1000000 ≤ v ∧ v ≤ 1000000 ∧ (t = true → v = 0 ∨ v = 1)
def VM (ts : List Bool) (s : List Int) : Prop := match ts, s with
  | [], [] => True
  | t :: ts, v :: s => vok t v ∧ VM ts s
  | _, _ => False
theorem VM_len : ∀ {ts : List Bool} {s : List Int}, VM ts s → s.length = ts.length
  | [], [], _ => rfl
  | _ :: _, _ :: _, h => congrArg (· + 1) (VM_len h.2)
theorem VM1 {t : Bool} {ts : List Bool} {s : List Int} (h : VM (t :: ts) s) : ∃ v s', s = v :: s' ∧ vok t v ∧ VM ts s' := by
  match s, h with
  | v :: s', h => exact ⟨v, s', rfl, h.1, h.2⟩
theorem clampI_in (z : Int) : -1000000 ≤ clampI z (-1000000) 1000000 ∧ clampI z (-1000000) 1000000 ≤ 1000000 := by
  unfold clampI; split
  · omega
  · split <;> omega
theorem bit_iand {l r : Int} (hl : l = 0 ∨ l = 1) (hr : r = 0 ∨ r = 1) : (iand l r = 0 ∨ iand l r = 1) ∧ (ior l r = 0 ∨ ior l r = 1) := by
  rcases hl with rfl | rfl <;> rcases hr with rfl | rfl <;> decide
def envOk (w : Nat) (env : Nat → Int) : Prop := ∀ i, i < w → 0 ≤ env i ∧ env i ≤ 99
theorem cstep_ok {w : Nat} (hw : w ≤ 6) {env : Nat → Int} (he : envOk w env) {c : Int} {ts ts' : List Bool} {s : List Int} (ht : tstep w c ts = some ts') (hv : VM ts s) : VM ts' (cstep env c s) := by
  unfold tstep at ht
  split at ht
  · rename_i hc
    split at ht
    · cases ht
      unfold cstep
      by_cases h1 : c < 1000
      · rw [if_pos h1]
        exact ⟨⟨by omega, by omega, fun h => by cases h⟩, hv⟩
      · rw [if_neg h1, if_pos (by omega)]
        have := he (c - 1000).toNat (by omega)
        exact ⟨⟨by omega, by omega, fun h => by cases h⟩, hv⟩
    · cases ht
  · split at ht
    · rename_i hc
      split at ht
      · rename_i t
        cases ht
        obtain ⟨r, s1, rfl, hr, hv1⟩ := VM1 hv
        obtain ⟨l, s2, rfl, hl, hv2⟩ := VM1 hv1
        unfold cstep
        rw [if_neg (by omega), if_neg (by omega), if_neg (by omega), if_neg (by omega)]
        refine ⟨⟨?_, ?_, fun h => by cases h⟩, hv2⟩ <;> simp only [List.getD_cons_zero, List.getD_cons_succ] <;> unfold bin <;> (repeat' split) <;> first | exact (clampI_in _).1 | exact (clampI_in _).2 | omega
      · cases ht
    · split at ht
      · rename_i hc
        split at ht
        · rename_i t
          cases ht
          obtain ⟨r, s1, rfl, hr, hv1⟩ := VM1 hv
          obtain ⟨l, s2, rfl, hl, hv2⟩ := VM1 hv1
          unfold cstep
          rw [if_neg (by omega), if_neg (by omega), if_neg (by omega), if_neg (by omega)]
          have hb : bin c l r = 0 ∨ bin c l r = 1 := by
            unfold bin
            rw [if_neg (by omega), if_neg (by omega), if_neg (by omega)]
            (repeat' split) <;> first | exact Or.inl rfl | exact Or.inr rfl | omega
          refine ⟨⟨?_, ?_, fun _ => hb⟩, hv2⟩ <;> simp only [List.getD_cons_zero, List.getD_cons_succ] <;> omega
        · cases ht
      · split at ht
        · rename_i hc
          split at ht
          · rename_i t
            cases ht
            obtain ⟨r, s1, rfl, hr, hv1⟩ := VM1 hv
            unfold cstep
            rw [if_neg (by omega), if_neg (by omega), if_pos hc]
            have := hr.2.2 rfl
            refine ⟨⟨?_, ?_, fun _ => ?_⟩, hv1⟩ <;> simp only [List.getD_cons_zero] <;> omega
          · cases ht
        · split at ht
          · rename_i hc
            split at ht
            · rename_i t
              cases ht
              obtain ⟨r, s1, rfl, hr, hv1⟩ := VM1 hv
              obtain ⟨l, s2, rfl, hl, hv2⟩ := VM1 hv1
              unfold cstep
              rw [if_neg (by omega), if_neg (by omega), if_neg (by omega), if_neg (by omega)]
              have h2 := bit_iand (hl.2.2 rfl) (hr.2.2 rfl)
              have hb : bin c l r = 0 ∨ bin c l r = 1 := by
                unfold bin
                rw [if_neg (by omega), if_neg (by omega), if_neg (by omega), if_neg (by omega), if_neg (by omega), if_neg (by omega)]
                split
                · exact h2.1
                · exact h2.2
              refine ⟨⟨?_, ?_, fun _ => hb⟩, hv2⟩ <;> simp only [List.getD_cons_zero, List.getD_cons_succ] <;> omega
            · cases ht
          · split at ht
            · rename_i hc
              split at ht
              · rename_i t
                cases ht
                obtain ⟨r, s1, rfl, hr, hv1⟩ := VM1 hv
                obtain ⟨l, s2, rfl, hl, hv2⟩ := VM1 hv1
                obtain ⟨q, s3, rfl, hq, hv3⟩ := VM1 hv2
                unfold cstep
                rw [if_neg (by omega), if_neg (by omega), if_neg (by omega), if_pos hc]
                simp only [List.getD_cons_zero, List.getD_cons_succ]
                refine ⟨?_, hv3⟩
                split
                · exact ⟨hl.1, hl.2.1, fun h => by cases h⟩
                · exact ⟨hr.1, hr.2.1, fun h => by cases h⟩
              · cases ht
            · cases ht
/-- the class's code of a reference's code -/
def enc (c : Int) : Int := if c < 1000 then c * 16 else if c < 3000 then (c - 1000) * 16 + 1 else c - 2998
