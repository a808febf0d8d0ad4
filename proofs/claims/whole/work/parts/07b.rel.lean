/-! the pure machine and the JVM: how a pure state is read off a real one -/
abbrev vwCl : List vw_C := [(RX0, TX0, 6), (RX1, TX1, 9), (RX2, TX2, 3), (RX3, TX3, 2), (RX4, TX4, 3), (RX5, TX5, 13), (RX6, TX6, 13), (RX7, TX7, 13), (RX8, TX8, 4), (RX9, TX9, 7), (RX10, TX10, 4), (RX11, TX11, 11), (RX12, TX12, 38)]
def cn (c : Nat) : String := match c with
  | 0 => RX0
  | 1 => RX1
  | 2 => RX2
  | 3 => RX3
  | 4 => RX4
  | 5 => RX5
  | 6 => RX6
  | 7 => RX7
  | 8 => RX8
  | 9 => RX9
  | 10 => RX10
  | 11 => RX11
  | 12 => RX12
  | 13 => RL
  | 14 => RJ0
  | 15 => RJ1
  | 16 => RJ6
  | 17 => RJ13
  | 18 => RJ9
  | 19 => RJ7
  | 20 => RJ3
  | 100 => RX0
  | 101 => RX1
  | 102 => RX2
  | 103 => RX3
  | 104 => RX4
  | 105 => RX5
  | 106 => RX6
  | 107 => RX7
  | 108 => RX8
  | 109 => RX9
  | 110 => RX10
  | 111 => RX11
  | 112 => RX12
  | _ => ""
/-- the widths of a class's slots: 0 an int, 1 a long, 2 a reference -/
def wdl (c : Nat) : List Nat := match c with
  | 0 => [2, 2, 0, 0, 0, 0]
  | 1 => [2, 2, 2, 2, 2, 2, 0, 0, 0]
  | 2 => [2, 2, 0]
  | 3 => [1, 1]
  | 4 => [2, 0, 0]
  | 5 => [2, 2, 2, 2, 2, 2, 2, 2, 0, 0, 0, 0, 0]
  | 6 => [2, 2, 2, 0, 0, 0, 0, 0, 0, 0, 0, 0, 0]
  | 7 => [2, 2, 2, 2, 2, 2, 2, 2, 2, 2, 2, 0, 0]
  | 8 => [2, 2, 0, 0]
  | 9 => [2, 2, 2, 2, 2, 2, 2]
  | 10 => [2, 0, 0, 0]
  | 11 => [2, 2, 2, 2, 2, 2, 2, 2, 2, 2, 2]
  | 12 => [0, 2, 2, 2, 2, 0, 0, 0, 0, 0, 0, 0, 0, 0, 0, 0, 2, 2, 0, 0, 0, 2, 0, 0, 2, 2, 2, 0, 2, 2, 2, 2, 2, 0, 2, 2, 2, 2]
  | _ => []
def cv (av : Nat → Value) (v : PV) : Value := match v with
  | .inl z => .int (Int32.ofInt z)
  | .inr (.inl z) => .long (Int64.ofInt z)
  | .inr (.inr a) => av a
def okv (v : PV) : Prop := match v with
  | .inl z => in32 z
  | .inr (.inl z) => in64 z
  | .inr (.inr _) => True
/-- pure addresses against real ones: 0 is null, from 200 on they are the cells made since the law began -/
def AvOk (b0 : Nat) (av : Nat → Value) : Prop := av 0 = .null ∧ (∀ a, 200 ≤ a → av a = .ref (b0 + (a - 200))) ∧ ∀ a, av a = .null ∨ ∃ q, av a = .ref q
theorem cv_cat {b0 : Nat} {av : Nat → Value} (hav : AvOk b0 av) (v : PV) : (cv av v).category = match v with
    | .inr (.inl _) => 2
    | _ => 1 := by
  match v with
  | .inl z => rfl
  | .inr (.inl z) => rfl
  | .inr (.inr a) =>
    show (av a).category = 1
    rcases hav.2.2 a with h | ⟨q, h⟩ <;> rw [h] <;> rfl
/-- what the locals are known to hold -/
def lc1 (av : Nat → Value) (ls : List (Option PV)) (i : Nat) : Option (Nat × Value) := match ls[i]? with
  | some (some (.inr (.inl z))) => if ls[i + 1]? = some none then some (i, .long (Int64.ofInt z)) else none
  | some (some (.inl z)) => some (i, .int (Int32.ofInt z))
  | some (some (.inr (.inr a))) => some (i, av a)
  | _ => none
def lcl (av : Nat → Value) (ls : List (Option PV)) : List (Nat × Value) := (List.range ls.length).filterMap (lc1 av ls)
theorem mem_lcl {av : Nat → Value} {ls : List (Option PV)} {q : Nat × Value} : q ∈ lcl av ls ↔ ∃ v : PV, ls[q.1]? = some (some v) ∧ q.2 = cv av v ∧ ∀ z, v = .inr (.inl z) → ls[q.1 + 1]? = some none := by
  obtain ⟨i, x⟩ := q
  simp only [lcl, lc1, List.mem_filterMap, List.mem_range]
  constructor
  · rintro ⟨j, hj, h⟩
    split at h
    · rename_i z hz
      split at h
      · rename_i hn
        simp only [Option.some.injEq, Prod.mk.injEq] at h
        obtain ⟨rfl, rfl⟩ := h
        exact ⟨_, hz, rfl, fun _ _ => hn⟩
      · cases h
    · rename_i z hz
      simp only [Option.some.injEq, Prod.mk.injEq] at h
      obtain ⟨rfl, rfl⟩ := h
      exact ⟨_, hz, rfl, fun _ h => by cases h⟩
    · rename_i z hz
      simp only [Option.some.injEq, Prod.mk.injEq] at h
      obtain ⟨rfl, rfl⟩ := h
      exact ⟨_, hz, rfl, fun _ h => by cases h⟩
    · cases h
  · rintro ⟨v, hv, hx, hl⟩
    have hlt : i < ls.length := (List.getElem?_eq_some_iff.mp hv).1
    refine ⟨i, hlt, ?_⟩
    match v, hv, hx, hl with
    | .inl z, hv, hx, _ => simp only [hv, hx, cv]
    | .inr (.inl z), hv, hx, hl => simp only [hv, hx, cv, hl z rfl, if_true]
    | .inr (.inr a), hv, hx, _ => simp only [hv, hx, cv]
def LR (av : Nat → Value) (ls : List (Option PV)) (nL : Nat) (la : Array Slot) : Prop := ls.length = nL ∧ lv_has la nL (lcl av ls)
def okl (ls : List (Option PV)) : Prop := ∀ (i : Nat) (v : PV), ls[i]? = some (some v) → okv v
theorem LR.at1 {av : Nat → Value} {ls : List (Option PV)} {nL : Nat} {la : Array Slot} (h : LR av ls nL la) {i : Nat} {v : PV} (hv : ls[i]? = some (some v)) (hl : ∀ z, v = .inr (.inl z) → ls[i + 1]? = some none) : la[i]? = some (.val (cv av v)) := h.2.2.2 (i, cv av v) (mem_lcl.mpr ⟨v, hv, rfl, hl⟩)
theorem LR.store1 {b0 : Nat} {av : Nat → Value} (hav : AvOk b0 av) {ls : List (Option PV)} {nL : Nat} {la : Array Slot} (h : LR av ls nL la) {i : Nat} {v : PV} (hv : (cv av v).category = 1) {la' : Array Slot}
    (h' : lv_has la' nL ((i, cv av v) :: (lcl av ls).filter (fun q => !(q.1 == i) && !(q.1 + 1 == i && q.2.category == 2)))) : LR av (ls.set i (some v)) nL la' := by
  refine ⟨by rw [List.length_set]; exact h.1, h'.1, h'.2.1, fun q hq => ?_⟩
  obtain ⟨w, hw, hx, hl⟩ := mem_lcl.mp hq
  by_cases hi : q.1 = i
  · have hlt : i < ls.length := by
      have := (List.getElem?_eq_some_iff.mp hw).1
      rw [List.length_set] at this
      omega
    rw [hi, List.getElem?_set_self hlt] at hw
    simp only [Option.some.injEq] at hw
    subst hw
    refine h'.2.2 q (List.mem_cons.mpr (Or.inl ?_))
    exact Prod.ext hi hx
  · rw [List.getElem?_set_ne (Ne.symm hi)] at hw
    refine h'.2.2 q (List.mem_cons_of_mem _ (List.mem_filter.mpr ⟨mem_lcl.mpr ⟨w, hw, hx, fun z hz => ?_⟩, ?_⟩))
    · have h3 := hl z hz
      by_cases h4 : q.1 + 1 = i
      · rw [h4] at h3
        have h5 : i < ls.length := by
          have := (List.getElem?_eq_some_iff.mp h3).1
          rw [List.length_set] at this
          exact this
        rw [List.getElem?_set_self h5] at h3
        cases h3
      · rwa [List.getElem?_set_ne (Ne.symm h4)] at h3
    · have e1 : (q.1 == i) = false := by simpa using hi
      rw [e1]
      simp only [Bool.not_false, Bool.true_and, Bool.not_eq_true', Bool.and_eq_false_iff, beq_eq_false_iff_ne]
      by_cases h4 : q.1 + 1 = i
      · right
        intro h5
        rw [hx, cv_cat hav] at h5
        match w, hl, h5 with
        | .inl z, _, h5 => simp at h5
        | .inr (.inr z), _, h5 => simp at h5
        | .inr (.inl z), hl, _ =>
          have h3 := hl z rfl
          rw [h4] at h3
          have h6 : i < ls.length := by
            have := (List.getElem?_eq_some_iff.mp h3).1
            rw [List.length_set] at this
            exact this
          rw [List.getElem?_set_self h6] at h3
          cases h3
      · left; exact h4
theorem LR.store2 {b0 : Nat} {av : Nat → Value} (hav : AvOk b0 av) {ls : List (Option PV)} {nL : Nat} {la : Array Slot} (h : LR av ls nL la) {i : Nat} {z : Int} (hi1 : i + 1 < ls.length) {la' : Array Slot}
    (h' : lv_has la' nL ((i, Value.long (Int64.ofInt z)) :: (lcl av ls).filter (fun q => !(q.1 == i) && (!(q.1 == i + 1) && !(q.1 + 1 == i && q.2.category == 2))))) : LR av ((ls.set i (some (.inr (.inl z)))).set (i + 1) none) nL la' := by
  refine ⟨by rw [List.length_set, List.length_set]; exact h.1, h'.1, h'.2.1, fun q hq => ?_⟩
  obtain ⟨w, hw, hx, hl⟩ := mem_lcl.mp hq
  have hn1 : q.1 ≠ i + 1 := by
    intro e
    rw [e, List.getElem?_set_self (by rw [List.length_set]; exact hi1)] at hw
    cases hw
  rw [List.getElem?_set_ne (Ne.symm hn1)] at hw
  by_cases hi : q.1 = i
  · rw [hi, List.getElem?_set_self (by omega)] at hw
    simp only [Option.some.injEq] at hw
    subst hw
    refine h'.2.2 q (List.mem_cons.mpr (Or.inl ?_))
    exact Prod.ext hi hx
  · rw [List.getElem?_set_ne (Ne.symm hi)] at hw
    have key : ∀ z', w = .inr (.inl z') → q.1 + 1 ≠ i ∧ ls[q.1 + 1]? = some none := by
      intro z' hz
      have h3 := hl z' hz
      by_cases h5 : q.1 + 1 = i + 1
      · omega
      · rw [List.getElem?_set_ne (Ne.symm h5)] at h3
        by_cases h4 : q.1 + 1 = i
        · rw [h4, List.getElem?_set_self (by omega)] at h3
          cases h3
        · rw [List.getElem?_set_ne (Ne.symm h4)] at h3
          exact ⟨h4, h3⟩
    refine h'.2.2 q (List.mem_cons_of_mem _ (List.mem_filter.mpr ⟨mem_lcl.mpr ⟨w, hw, hx, fun z' hz => (key z' hz).2⟩, ?_⟩))
    have e1 : (q.1 == i) = false := by simpa using hi
    have e2 : (q.1 == i + 1) = false := by simpa using hn1
    rw [e1, e2]
    simp only [Bool.not_false, Bool.true_and, Bool.not_eq_true', Bool.and_eq_false_iff, beq_eq_false_iff_ne]
    by_cases h4 : q.1 + 1 = i
    · right
      intro h5
      rw [hx, cv_cat hav] at h5
      match w, key, h5 with
      | .inl z, _, h5 => simp at h5
      | .inr (.inr z), _, h5 => simp at h5
      | .inr (.inl z), key, _ => exact absurd h4 (key z rfl).1
    · left; exact h4
theorem okl.set {ls : List (Option PV)} (h : okl ls) (i : Nat) {v : Option PV} (hv : ∀ w, v = some w → okv w) : okl (ls.set i v) := by
  intro j w hw
  by_cases hj : i = j
  · subst hj
    have hlt : i < ls.length := by
      have := (List.getElem?_eq_some_iff.mp hw).1
      rw [List.length_set] at this
      exact this
    rw [List.getElem?_set_self hlt] at hw
    exact hv w (Option.some.inj hw)
  · rw [List.getElem?_set_ne hj] at hw
    exact h j w hw
/-- the cell of a pure address -/
def rfo (v : Value) : Option Nat := match v with
  | .ref q => some q
  | _ => none
theorem rf_rfo {b0 : Nat} {av : Nat → Value} (hav : AvOk b0 av) (a : Nat) : va_rf (rfo (av a)) = av a := by
  rcases hav.2.2 a with h | ⟨q, h⟩ <;> rw [h] <;> rfl
def obj (av : Nat → Value) (h : Hp) (c a : Nat) : List Value := (List.range (wdl c).length).map fun k => cv av (mvl h ((wdl c).getD k 0) a k)
def En (av : Nat → Value) (cA : Nat → ClassId) (h : Hp) (a : Nat) : va_E :=
  if (hK h a).1 < 20 then .inr ((hK h a).1, obj av h (hK h a).1 a)
  else if (hK h a).1 = 22 then .inl (cA (hK h a).1, (hK h a).2, .inr (.inl fun i => Int64.ofInt (hJ h a i)))
  else if (hK h a).1 < 24 then .inl (cA (hK h a).1, (hK h a).2, .inl fun i => Int32.ofInt (hI h a i))
  else .inl (cA (hK h a).1, (hK h a).2, .inr (.inr (.inr (.inr fun i => rfo (av (hR h a i))))))
def wsl (b0 : Nat) (av : Nat → Value) (cA : Nat → ClassId) (h : Hp) : va_W := (List.range (hN h)).map fun i => (b0 + i, En av cA h (200 + i))
def okh (h : Hp) : Prop := (∀ a k, in32 (hI h a k)) ∧ (∀ a k, in64 (hJ h a k)) ∧ (∀ a, 200 + hN h ≤ a → (hK h a).1 = 99) ∧ (∀ a, (hK h a).2 ≤ 100000)
theorem wsl_at {b0 : Nat} {av : Nat → Value} {cA : Nat → ClassId} {h : Hp} {a : Nat} (h1 : 200 ≤ a) (h2 : a < 200 + hN h) : (wsl b0 av cA h)[a - 200]? = some (b0 + (a - 200), En av cA h a) := by
  simp only [wsl, List.getElem?_map]
  rw [List.getElem?_range (by omega)]
  simp only [Option.map_some]
  rw [show 200 + (a - 200) = a by omega]
theorem wsl_get {b0 : Nat} {av : Nat → Value} {cA : Nat → ClassId} {h : Hp} {k : Nat} {q : Nat × va_E} (hq : (wsl b0 av cA h)[k]? = some q) : k < hN h ∧ q = (b0 + k, En av cA h (200 + k)) := by
  simp only [wsl, List.getElem?_map] at hq
  by_cases hk : k < hN h
  · rw [List.getElem?_range hk] at hq
    simp only [Option.map_some, Option.some.injEq] at hq
    exact ⟨hk, hq.symm⟩
  · rw [List.getElem?_eq_none (by simpa using hk)] at hq
    cases hq
theorem wsl_D (b0 : Nat) (av : Nat → Value) (cA : Nat → ClassId) (h : Hp) : va_D (fun q => b0 ≤ q) (wsl b0 av cA h) := by
  refine ⟨fun i j p q hp hq e => ?_, fun k q hq => ?_⟩
  · obtain ⟨-, rfl⟩ := wsl_get hp
    obtain ⟨-, rfl⟩ := wsl_get hq
    simp only at e
    omega
  · obtain ⟨-, rfl⟩ := wsl_get hq
    show b0 ≤ b0 + k
    omega
theorem wsl_set {b0 : Nat} {av : Nat → Value} {cA : Nat → ClassId} {h h' : Hp} {a : Nat} {e : va_E} (h1 : 200 ≤ a) (hn : hN h' = hN h) (he : En av cA h' a = e) (ho : ∀ b, b ≠ a → En av cA h' b = En av cA h b) : (wsl b0 av cA h).set (a - 200) (b0 + (a - 200), e) = wsl b0 av cA h' := by
  apply List.ext_getElem?
  intro k
  by_cases hk : k < hN h
  · by_cases hka : k = a - 200
    · have hk2 : a - 200 < (wsl b0 av cA h).length := by
        have e0 : (wsl b0 av cA h).length = hN h := by simp [wsl]
        rw [e0, ← hka]; exact hk
      have e1 := wsl_at (b0 := b0) (av := av) (cA := cA) (h := h') (a := a) h1 (by omega)
      rw [he] at e1
      rw [hka, List.getElem?_set_self hk2, e1]
    · rw [List.getElem?_set_ne (Ne.symm hka)]
      have e1 := wsl_at (b0 := b0) (av := av) (cA := cA) (h := h) (a := 200 + k) (by omega) (by omega)
      have e2 := wsl_at (b0 := b0) (av := av) (cA := cA) (h := h') (a := 200 + k) (by omega) (by omega)
      rw [show 200 + k - 200 = k by omega] at e1 e2
      rw [e1, e2, ho (200 + k) (by omega)]
  · rw [List.getElem?_eq_none (by simpa [wsl] using hk), List.getElem?_eq_none (by simpa [wsl, hn] using hk)]
theorem wsl_push {b0 : Nat} {av : Nat → Value} {cA : Nat → ClassId} {h h' : Hp} {e : va_E} (hn : hN h' = hN h + 1) (he : En av cA h' (200 + hN h) = e) (ho : ∀ b, b ≠ 200 + hN h → En av cA h' b = En av cA h b) : wsl b0 av cA h ++ [(b0 + hN h, e)] = wsl b0 av cA h' := by
  simp only [wsl, hn, List.range_succ, List.map_append, List.map_cons, List.map_nil, he]
  congr 1
  apply List.map_congr_left
  intro i hi
  rw [ho (200 + i) (by have := List.mem_range.mp hi; omega)]
section Cells
variable {av : Nat → Value} {cA : Nat → ClassId} {h : Hp}
theorem En_obj {a c : Nat} (hc : (hK h a).1 = c) (h20 : c < 20) : En av cA h a = .inr (c, obj av h c a) := by
  unfold En; rw [hc, if_pos h20]
theorem En_int {a c : Nat} (hc : (hK h a).1 = c) (h1 : c = 20 ∨ c = 21 ∨ c = 23) : En av cA h a = .inl (cA c, (hK h a).2, .inl fun i => Int32.ofInt (hI h a i)) := by
  unfold En; rw [hc, if_neg (by omega), if_neg (by omega), if_pos (by omega)]
theorem En_long {a : Nat} (hc : (hK h a).1 = 22) : En av cA h a = .inl (cA 22, (hK h a).2, .inr (.inl fun i => Int64.ofInt (hJ h a i))) := by
  unfold En; rw [hc, if_neg (by omega), if_pos rfl]
theorem En_ref {a c : Nat} (hc : (hK h a).1 = c) (h1 : c = 24 ∨ c = 25 ∨ c = 26) : En av cA h a = .inl (cA c, (hK h a).2, .inr (.inr (.inr (.inr fun i => rfo (av (hR h a i)))))) := by
  unfold En; rw [hc, if_neg (by omega), if_neg (by omega), if_neg (by omega)]
theorem obj_get {a c k w : Nat} (hk : k < (wdl c).length) (hw : (wdl c).getD k 0 = w) : (obj av h c a)[k]? = some (cv av (mvl h w a k)) := by
  simp only [obj, List.getElem?_map, List.getElem?_range hk, Option.map_some, hw]
theorem obj_len (c a : Nat) : (obj av h c a).length = (wdl c).length := by simp [obj]
theorem mvl_wI_ne {a k b j w : Nat} {v : Int} (hb : b ≠ a ∨ j ≠ k) : mvl (wI h a k v) w b j = mvl h w b j := by
  have e : hI (wI h a k v) b j = hI h b j := by rw [hI_wI, if_neg (by omega)]
  simp only [mvl, e, hJ_wI, hR_wI]
theorem mvl_wJ_ne {a k b j w : Nat} {v : Int} (hb : b ≠ a ∨ j ≠ k) : mvl (wJ h a k v) w b j = mvl h w b j := by
  have e : hJ (wJ h a k v) b j = hJ h b j := by rw [hJ_wJ, if_neg (by omega)]
  simp only [mvl, e, hI_wJ, hR_wJ]
theorem mvl_wR_ne {a k b j w v : Nat} (hb : b ≠ a ∨ j ≠ k) : mvl (wR h a k v) w b j = mvl h w b j := by
  have e : hR (wR h a k v) b j = hR h b j := by rw [hR_wR, if_neg (by omega)]
  simp only [mvl, e, hI_wR, hJ_wR]
theorem obj_upd {h' : Hp} {a c k w : Nat} {x : Value} (hk : k < (wdl c).length) (hw : (wdl c).getD k 0 = w) (hx : cv av (mvl h' w a k) = x) (ho : ∀ j w', j ≠ k → mvl h' w' a j = mvl h w' a j) : obj av h' c a = (obj av h c a).set k x := by
  apply List.ext_getElem?
  intro j
  by_cases hj : j < (wdl c).length
  · rw [obj_get hj rfl]
    by_cases hjk : j = k
    · subst hjk
      rw [List.getElem?_set_self (by rw [obj_len]; exact hj), hw, hx]
    · rw [List.getElem?_set_ne (Ne.symm hjk), obj_get hj rfl, ho j _ hjk]
  · rw [List.getElem?_eq_none (by rw [obj_len]; omega), List.getElem?_eq_none (by rw [List.length_set, obj_len]; omega)]
theorem En_same {h' : Hp} {b : Nat} (e1 : hK h' b = hK h b) (e2 : ∀ j, hI h' b j = hI h b j) (e3 : ∀ j, hJ h' b j = hJ h b j) (e4 : ∀ j, hR h' b j = hR h b j) : En av cA h' b = En av cA h b := by
  have eo : ∀ c, obj av h' c b = obj av h c b := by
    intro c
    simp only [obj, mvl, e2, e3, e4]
  simp only [En, e1, eo, e2, e3, e4]
theorem En_wI {a k b : Nat} {v : Int} (hb : b ≠ a) : En av cA (wI h a k v) b = En av cA h b := En_same rfl (fun j => by rw [hI_wI, if_neg (by omega)]) (fun j => rfl) (fun j => rfl)
theorem En_wJ {a k b : Nat} {v : Int} (hb : b ≠ a) : En av cA (wJ h a k v) b = En av cA h b := En_same rfl (fun j => rfl) (fun j => by rw [hJ_wJ, if_neg (by omega)]) (fun j => rfl)
theorem En_wR {a k b v : Nat} (hb : b ≠ a) : En av cA (wR h a k v) b = En av cA h b := En_same rfl (fun j => rfl) (fun j => rfl) (fun j => by rw [hR_wR, if_neg (by omega)])
theorem En_cp {s sp d dp n b : Nat} (hb : b ≠ d) : En av cA (cpI h s sp d dp n) b = En av cA h b := En_same rfl (fun j => by rw [hI_cp, if_neg (by omega)]) (fun j => rfl) (fun j => rfl)
theorem En_nw {c l s b : Nat} (hb : b ≠ 200 + hN h) : En av cA (nw h c l s) b = En av cA h b := En_same (by rw [hK_nw, if_neg hb]) (fun j => by rw [hI_nw, if_neg hb]) (fun j => by rw [hJ_nw, if_neg hb]) (fun j => by rw [hR_nw, if_neg hb])
end Cells
theorem okh_wI {h : Hp} (hh : okh h) {a k : Nat} {v : Int} (hv : in32 v) : okh (wI h a k v) := by
  refine ⟨fun b j => ?_, hh.2.1, hh.2.2.1, hh.2.2.2⟩
  rw [hI_wI]; split
  · exact hv
  · exact hh.1 b j
theorem okh_wJ {h : Hp} (hh : okh h) {a k : Nat} {v : Int} (hv : in64 v) : okh (wJ h a k v) := by
  refine ⟨hh.1, fun b j => ?_, hh.2.2.1, hh.2.2.2⟩
  rw [hJ_wJ]; split
  · exact hv
  · exact hh.2.1 b j
theorem okh_wR {h : Hp} (hh : okh h) {a k v : Nat} : okh (wR h a k v) := ⟨hh.1, hh.2.1, hh.2.2.1, hh.2.2.2⟩
theorem okh_cp {h : Hp} (hh : okh h) {s sp d dp n : Nat} : okh (cpI h s sp d dp n) := by
  refine ⟨fun b j => ?_, hh.2.1, hh.2.2.1, hh.2.2.2⟩
  rw [hI_cp]; split
  · exact hh.1 _ _
  · exact hh.1 b j
theorem okh_nw {h : Hp} (hh : okh h) {c l s : Nat} (hl : l ≤ 100000) : okh (nw h c l s) := by
  refine ⟨fun b j => ?_, fun b j => ?_, fun b hb => ?_, fun b => ?_⟩
  · rw [hI_nw]; split
    · exact in32_0
    · exact hh.1 b j
  · rw [hJ_nw]; split
    · unfold in64; omega
    · exact hh.2.1 b j
  · rw [hN_nw] at hb
    rw [hK_nw, if_neg (by omega)]
    exact hh.2.2.1 b (by omega)
  · rw [hK_nw]; split
    · exact hl
    · exact hh.2.2.2 b
