/-! the search itself, by the kernel -/
set_option maxRecDepth 100000 in
theorem q_rs : ∀ M : Fin 64, Nat.beq M.1 0 = false → q_root M.1 = true := by decide +kernel
