set_option maxRecDepth 100000 in
theorem q_r0 : q_root 0 = true := by decide +kernel
theorem q_rt {M : Nat} (h : M < 64) : q_root M = true := by
  cases hz : Nat.beq M 0 with
  | false => exact q_rs ⟨M, h⟩ hz
  | true => rw [beq_t hz]; exact q_r0
/-- no more sets can come than the table says -/
theorem q_cnt {E : Nat → Nat} (y : Sy E) : ∀ (n M : Nat), 64 ≤ M + n → Gd E M → Cn E M (q_f M) := by
  intro n
  induction n with
  | zero => intro M h g; have := g.1; omega
  | succ n ih =>
    intro M h g
    exact root_ok y g (fun M' h' g' => ih M' (by omega) g') (q_rt g.1)
theorem q_f_le {M : Nat} (h : M < 64) : q_f M ≤ 16 := by
  have : ∀ M : Fin 64, Nat.ble (q_f M.1) 16 = true := by decide +kernel
  exact Nat.le_of_ble_eq_true (this ⟨M, h⟩)
/-- never more than 16 -/
theorem q_16 {E : Nat → Nat} (y : Sy E) {M : Nat} (g : Gd E M) : ∃ l : List Nat, l.length ≤ 16 ∧ ∀ X, Rc E M X → X ∈ l := by
  obtain ⟨l, h1, h2⟩ := q_cnt y 64 M (by omega) g
  exact ⟨l, Nat.le_trans h1 (q_f_le g.1), h2⟩
