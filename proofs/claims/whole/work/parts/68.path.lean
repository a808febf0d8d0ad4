/-! ways to a goal: the shortest, the first -/
def Pt (f : Nat → Nat → Nat) (set G : Nat) (gl : Nat → Bool) : Nat → Nat → Prop
  | 0, s => gl s = true
  | n + 1, s => ∃ g, g < G ∧ set.testBit g = true ∧ Pt f set G gl n (f g s)
section Ways
variable {f : Nat → Nat → Nat} {set G : Nat} {L : List Nat} {ah by' dv : Nat → Nat} {gl : Nat → Bool}
theorem Tree.ah_le (t : Tree f set G L ah by' dv L.length 0) : ∀ n p, 0 < p → p + n < L.length → ah p ≤ ah (p + n) := by
  intro n
  induction n with
  | zero => intro p _ _; exact Nat.le_refl _
  | succ n ih =>
    intro p hp hn
    have a := ih p hp (by omega)
    have b := t.2.2.1 (p + n) (by omega) (by omega)
    have : p + (n + 1) = p + n + 1 := by omega
    rw [this]
    omega
theorem Tree.ah_mono (t : Tree f set G L ah by' dv L.length 0) {p q : Nat} (hp : 0 < p) (hpq : p ≤ q) (hq : q < L.length) : ah p ≤ ah q := by
  have := t.ah_le (q - p) p hp (by omega)
  rw [show p + (q - p) = q by omega] at this
  exact this
/-- the pair of a later place is the later one -/
theorem Tree.pr_lt (t : Tree f set G L ah by' dv L.length 0) : ∀ n p, 0 < p → p + (n + 1) < L.length → ah p < ah (p + (n + 1)) ∨ (ah p = ah (p + (n + 1)) ∧ by' p < by' (p + (n + 1))) := by
  intro n
  induction n with
  | zero => intro p hp hn; exact t.2.2.1 p hp hn
  | succ n ih =>
    intro p hp hn
    have a := ih p hp (by omega)
    have b := t.2.2.1 (p + (n + 1)) (by omega) (by omega)
    have : p + (n + 1 + 1) = p + (n + 1) + 1 := by omega
    rw [this]
    omega
theorem Tree.pr_mono (t : Tree f set G L ah by' dv L.length 0) {p q : Nat} (hp : 0 < p) (hpq : p < q) (hq : q < L.length) : ah p < ah q ∨ (ah p = ah q ∧ by' p < by' q) := by
  have := t.pr_lt (q - p - 1) p hp (by omega)
  rw [show p + (q - p - 1 + 1) = q by omega] at this
  exact this
theorem Tree.dv_mono (t : Tree f set G L ah by' dv L.length 0) : ∀ q p, p ≤ q → q < L.length → dv p ≤ dv q := by
  intro q
  induction q using Nat.strongRecOn with
  | _ q ih =>
    intro p hpq hq
    by_cases p0 : p = 0
    · rw [p0, t.1]; omega
    · obtain ⟨a1, a2, a3, a4, a5, a6⟩ := t.2.1 p (by omega) (by omega)
      obtain ⟨b1, b2, b3, b4, b5, b6⟩ := t.2.1 q (by omega) hq
      have c := t.ah_mono (by omega) hpq hq
      have := ih (ah q) b1 (ah p) c (by omega)
      omega
theorem Tree.dv_0 (t : Tree f set G L ah by' dv L.length 0) {p : Nat} (hp : p < L.length) (h : dv p = 0) : p = 0 := by
  by_cases p0 : p = 0
  · exact p0
  · obtain ⟨a1, a2, a3, a4, a5, a6⟩ := t.2.1 p (by omega) hp
    omega
/-- a step from a place leads to a place at most one deeper, and not behind its own children -/
theorem Tree.step (t : Tree f set G L ah by' dv L.length 0) {p g : Nat} (hp : p < L.length) (hg : g < G) (hb : set.testBit g = true) : ∃ q, q < L.length ∧ L.getD q 0 = f g (L.getD p 0) ∧ dv q ≤ dv p + 1 ∧ (q = 0 ∨ ah q < p ∨ (ah q = p ∧ by' q ≤ g)) := by
  obtain ⟨q, hq, e, c⟩ := t.2.2.2 p g hp hg hb (Or.inl hp)
  refine ⟨q, hq, e, ?_, c⟩
  by_cases q0 : q = 0
  · rw [q0, t.1]; omega
  · obtain ⟨a1, a2, a3, a4, a5, a6⟩ := t.2.1 q (by omega) hq
    have := t.dv_mono p (ah q) (by omega) hp
    omega
theorem Tree.path (t : Tree f set G L ah by' dv L.length 0) : ∀ n p, p < L.length → Pt f set G gl n (L.getD p 0) → ∃ q, q < L.length ∧ gl (L.getD q 0) = true ∧ dv q ≤ dv p + n := by
  intro n
  induction n with
  | zero => intro p hp h; exact ⟨p, hp, h, Nat.le_refl _⟩
  | succ n ih =>
    intro p hp h
    obtain ⟨g, hg, hb, h2⟩ := h
    obtain ⟨q, hq, e, d1, _⟩ := t.step hp hg hb
    rw [← e] at h2
    obtain ⟨r, hr, gr, dr⟩ := ih q hq h2
    exact ⟨r, hr, gr, by omega⟩
/-- the k-th ahead of a place -/
def anc (ah : Nat → Nat) : Nat → Nat → Nat
  | 0, p => p
  | k + 1, p => ah (anc ah k p)
theorem Tree.anc_in (t : Tree f set G L ah by' dv L.length 0) {p : Nat} (hp : p < L.length) : ∀ k, k ≤ dv p → anc ah k p < L.length ∧ dv (anc ah k p) = dv p - k := by
  intro k
  induction k with
  | zero => intro _; exact ⟨hp, by show dv p = dv p - 0; omega⟩
  | succ k ih =>
    intro hk
    obtain ⟨a, b⟩ := ih (by omega)
    have n0 : anc ah k p ≠ 0 := fun q => by rw [q, t.1] at b; omega
    obtain ⟨a1, a2, a3, a4, a5, a6⟩ := t.2.1 _ (by omega) a
    show ah (anc ah k p) < L.length ∧ dv (ah (anc ah k p)) = dv p - (k + 1)
    omega
theorem Tree.anc_pt (t : Tree f set G L ah by' dv L.length 0) {p : Nat} (hp : p < L.length) (hg : gl (L.getD p 0) = true) : ∀ k, k ≤ dv p → Pt f set G gl k (L.getD (anc ah k p) 0) := by
  intro k
  induction k with
  | zero => intro _; exact hg
  | succ k ih =>
    intro hk
    obtain ⟨a, b⟩ := t.anc_in hp k (by omega)
    have n0 : anc ah k p ≠ 0 := fun q => by rw [q, t.1] at b; omega
    obtain ⟨a1, a2, a3, a4, a5, a6⟩ := t.2.1 _ (by omega) a
    have := ih (by omega)
    rw [a4] at this
    exact ⟨by' (anc ah k p), a3, a2, this⟩
theorem Tree.anc_0 (t : Tree f set G L ah by' dv L.length 0) {p : Nat} (hp : p < L.length) : anc ah (dv p) p = 0 := by
  obtain ⟨a, b⟩ := t.anc_in hp (dv p) (Nat.le_refl _)
  exact t.dv_0 a (by omega)
/-- the first goal along the order -/
def Fst (L : List Nat) (gl : Nat → Bool) (p : Nat) : Prop := p < L.length ∧ gl (L.getD p 0) = true ∧ ∀ q, q < p → gl (L.getD q 0) = false
theorem Tree.least (t : Tree f set G L ah by' dv L.length 0) {p : Nat} (h : Fst L gl p) {k : Nat} (hk : k ≤ dv p) {n : Nat} (hn : Pt f set G gl n (L.getD (anc ah (dv p - k) p) 0)) : dv p - k ≤ n := by
  obtain ⟨a, b⟩ := t.anc_in h.1 (dv p - k) (by omega)
  obtain ⟨q, hq, gq, dq⟩ := t.path n _ a hn
  have : p ≤ q := by
    by_cases c : p ≤ q
    · exact c
    · have := h.2.2 q (by omega)
      rw [gq] at this
      exact absurd this (by decide)
  have := t.dv_mono q p this hq
  omega
theorem Tree.ord (t : Tree f set G L ah by' dv L.length 0) {p : Nat} (hp : p < L.length) : ∀ n r, n ≤ dv p → r < anc ah n p → Pt f set G gl n (L.getD r 0) → ∃ q, q < p ∧ gl (L.getD q 0) = true := by
  intro n
  induction n with
  | zero => intro r _ hr h; exact ⟨r, hr, h⟩
  | succ n ih =>
    intro r hn hr h
    obtain ⟨g, hg, hb, h2⟩ := h
    obtain ⟨a, b⟩ := t.anc_in hp n (by omega)
    obtain ⟨a', b'⟩ := t.anc_in hp (n + 1) hn
    have rl : r < L.length := by omega
    obtain ⟨q, hq, e, d1, c⟩ := t.step rl hg hb
    rw [← e] at h2
    have hr' : r < ah (anc ah n p) := hr
    refine ih q (by omega) ?_ h2
    by_cases q0 : q = 0
    · rw [q0]
      have n0 : anc ah n p ≠ 0 := fun z => by rw [z, t.1] at b; omega
      omega
    · by_cases hlt : q < anc ah n p
      · exact hlt
      · have := t.ah_mono (p := anc ah n p) (q := q) (by
          have n0 : anc ah n p ≠ 0 := fun z => by rw [z, t.1] at b; omega
          omega) (by omega) hq
        omega
/-- whom the first way sends: the least who keeps to it -/
theorem Tree.first (t : Tree f set G L ah by' dv L.length 0) {p : Nat} (h : Fst L gl p) {k : Nat} (hk : k < dv p) {g : Nat} (hg : g < G) (hb : set.testBit g = true) (hp : Pt f set G gl (dv p - k - 1) (f g (L.getD (anc ah (dv p - k) p) 0))) : by' (anc ah (dv p - k - 1) p) ≤ g := by
  by_cases hle : by' (anc ah (dv p - k - 1) p) ≤ g
  · exact hle
  · exfalso
    obtain ⟨a, b⟩ := t.anc_in h.1 (dv p - k) (by omega)
    obtain ⟨a', b'⟩ := t.anc_in h.1 (dv p - k - 1) (by omega)
    have ea : ah (anc ah (dv p - k - 1) p) = anc ah (dv p - k) p := by
      show anc ah (dv p - k - 1 + 1) p = _
      rw [show dv p - k - 1 + 1 = dv p - k by omega]
    have n0 : anc ah (dv p - k - 1) p ≠ 0 := fun z => by rw [z, t.1] at b'; omega
    obtain ⟨q, hq, e, d1, c⟩ := t.step a hg hb
    rw [← e] at hp
    have ql : q < anc ah (dv p - k - 1) p := by
      by_cases q0 : q = 0
      · omega
      · by_cases hlt : q < anc ah (dv p - k - 1) p
        · exact hlt
        · by_cases heq : q = anc ah (dv p - k - 1) p
          · rw [heq, ea] at c
            omega
          · have := t.pr_mono (p := anc ah (dv p - k - 1) p) (q := q) (by omega) (by omega) hq
            rw [ea] at this
            omega
    obtain ⟨r, hr, gr⟩ := t.ord h.1 (dv p - k - 1) q (by omega) ql hp
    have := h.2.2 r hr
    rw [gr] at this
    exact absurd this (by decide)
theorem Tree.go (t : Tree f set G L ah by' dv L.length 0) {p : Nat} (hp : p < L.length) (hgl : gl (L.getD p 0) = true) {k : Nat} (hk : k < dv p) : by' (anc ah (dv p - k - 1) p) < G ∧ set.testBit (by' (anc ah (dv p - k - 1) p)) = true ∧ f (by' (anc ah (dv p - k - 1) p)) (L.getD (anc ah (dv p - k) p) 0) = L.getD (anc ah (dv p - k - 1) p) 0 ∧ Pt f set G gl (dv p - k - 1) (L.getD (anc ah (dv p - k - 1) p) 0) := by
  obtain ⟨a', b'⟩ := t.anc_in hp (dv p - k - 1) (by omega)
  have n0 : anc ah (dv p - k - 1) p ≠ 0 := fun z => by rw [z, t.1] at b'; omega
  obtain ⟨a1, a2, a3, a4, a5, a6⟩ := t.2.1 _ (by omega) a'
  have ea : ah (anc ah (dv p - k - 1) p) = anc ah (dv p - k) p := by
    show anc ah (dv p - k - 1 + 1) p = _
    rw [show dv p - k - 1 + 1 = dv p - k by omega]
  rw [ea] at a4
  exact ⟨a3, a2, a4.symm, t.anc_pt hp hgl _ (by omega)⟩
theorem Tree.none (t : Tree f set G L ah by' dv L.length 0) (h : ∀ q, q < L.length → gl (L.getD q 0) = false) {p n : Nat} (hp : p < L.length) : ¬ Pt f set G gl n (L.getD p 0) := fun hn => by
  obtain ⟨q, hq, gq, _⟩ := t.path n p hp hn
  rw [h q hq] at gq
  exact absurd gq (by decide)
end Ways
theorem Fst_or (L : List Nat) (gl : Nat → Bool) : (∃ p, Fst L gl p) ∨ ∀ q, q < L.length → gl (L.getD q 0) = false := by
  have : ∀ n, n ≤ L.length → (∃ p, Fst L gl p) ∨ ∀ q, q < n → gl (L.getD q 0) = false := by
    intro n
    induction n with
    | zero => intro _; exact Or.inr (fun q hq => absurd hq (Nat.not_lt_zero _))
    | succ n ih =>
      intro hn
      rcases ih (by omega) with h | h
      · exact Or.inl h
      · by_cases hb : gl (L.getD n 0) = true
        · exact Or.inl ⟨n, by omega, hb, h⟩
        · refine Or.inr (fun q hq => ?_)
          by_cases he : q = n
          · rw [he]; simpa using hb
          · exact h q (by omega)
  exact this L.length (Nat.le_refl _)
