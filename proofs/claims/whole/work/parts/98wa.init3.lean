/-! the class's constructor -/
def VR (h : Hp) (a : Nat) (v : Nat → Nat) : Prop := ∀ k, hR h a k = v k
def upR (v : Nat → Nat) (j y k : Nat) : Nat := if k = j then y else v k
theorem VR.w {h : Hp} {a : Nat} {v : Nat → Nat} (x : VR h a v) (j y : Nat) : VR (wR h a j y) a (upR v j y) := by
  intro k
  unfold upR
  rw [hR_wR, x k]; simp
theorem VR.o {h : Hp} {a b : Nat} {v : Nat → Nat} (x : VR h a v) (hb : a ≠ b) (j y : Nat) : VR (wR h b j y) a v := by
  intro k
  rw [hR_wR, x k]; simp [hb]
theorem VR.f {h h' : Hp} {a : Nat} {v : Nat → Nat} (x : VR h a v) (f : Fa (fun _ => False) h h') (n : a < 200 + hN h) : VR h' a v := fun k => (f.R n id k).trans (x k)
theorem VR.n {h : Hp} {a : Nat} {v : Nat → Nat} (x : VR h a v) (n : a < 200 + hN h) (c l s : Nat) : VR (nw h c l s) a v := x.f ((Fa.refl _ h).nw c l s) n
/-- the cells that the constructor itself writes -/
def cS (a : Nat) : Prop := a = 200 ∨ a = 262 ∨ a = 271
theorem fN {h h' : Hp} (f : Fa (fun _ => False) h h') : Fa cS h h' := f.mono (fun _ q => q.elim)
theorem f200 (h : Hp) (k v : Nat) : Fa cS h (wR h 200 k v) := (Fa.refl cS h).wR (Or.inl rfl) k v
theorem f262 (h : Hp) (k v : Nat) : Fa cS h (wR h 262 k v) := (Fa.refl cS h).wR (Or.inr (Or.inl rfl)) k v
theorem f271 (h : Hp) (k v : Nat) : Fa cS h (wR h 271 k v) := (Fa.refl cS h).wR (Or.inr (Or.inr rfl)) k v
theorem I_past {d : Nat} {Q : Option PV → Hp → Prop} {h : Hp} (hM : hN h = 20) (k : ∀ h', Fa (fun _ => False) h h' → hN h' = 55 → hS h' ≤ hS h + 314 → Pa0 h' 11 → Q none h') : WP (d + 1) mX4_init 0 [some (.inr (.inr 220)), none] [] (nw h 4 0 3) Q := by
  simp only [rX4_init_0, rX4_init_1, rX4_init_4, rX4_init_5, rX4_init_7, rX4_init_10, rX4_init_13, rX4_init_14, hN_wI, hN_wJ, hN_wR, hS_wI, hS_wJ, hS_wR, hK_wI, hK_wJ, hK_wR, hI_wI, hI_wJ, hI_wR, hJ_wI, hJ_wJ, hJ_wR, hR_wI, hR_wJ, hR_wR, hN_nw, hS_nw, hK_nw, hI_nw, hJ_nw, hR_nw, psh_some, psh_none, Int.toNat_natCast, Int.natCast_nonneg, true_and, and_true, and_self, if_true, if_false, or_true, true_or, or_false, false_or, ne_eq, not_true_eq_false, not_false_eq_true, Nat.reduceLeDiff, Nat.reduceEqDiff, Nat.reduceLT, Nat.reduceAdd, Nat.reduceMul, Nat.reduceSub, Int.reduceLT, Int.reduceLE, Int.reduceEq, Int.reduceToNat, Int.reduceAdd, Int.reduceSub, Int.reduceMul, Int.reduceNeg, Int.cast_ofNat_Int, false_and, and_false, hM]
  have f : Fa (fun a => 200 + hN h ≤ a) h (wR (nw (nw h 4 0 3) 25 11 11) 220 0 221) := (((Fa.refl (fun a => 200 + hN h ≤ a) h).nw 4 0 3).nw 25 11 11).wR (by rw [hM]; decide) 0 221
  refine I_ring (d := d) (Q := Q) 11 0 _ rfl ?_ ?_
  · refine ⟨?_, ?_, ?_, ?_, ?_, ?_, fun j hj => absurd hj (by omega)⟩ <;> simp only [hN_wI, hN_wJ, hN_wR, hS_wI, hS_wJ, hS_wR, hK_wI, hK_wJ, hK_wR, hI_wI, hI_wJ, hI_wR, hJ_wI, hJ_wJ, hJ_wR, hR_wI, hR_wJ, hR_wR, hN_nw, hS_nw, hK_nw, hI_nw, hJ_nw, hR_nw, psh_some, psh_none, Int.toNat_natCast, Int.natCast_nonneg, true_and, and_true, and_self, if_true, if_false, or_true, true_or, or_false, false_or, ne_eq, not_true_eq_false, not_false_eq_true, Nat.reduceLeDiff, Nat.reduceEqDiff, Nat.reduceLT, Nat.reduceAdd, Nat.reduceMul, Nat.reduceSub, Int.reduceLT, Int.reduceLE, Int.reduceEq, Int.reduceToNat, Int.reduceAdd, Int.reduceSub, Int.reduceMul, Int.reduceNeg, Int.cast_ofNat_Int, false_and, and_false, hM]
  · intro h' f' s' p'
    refine k h' ?_ p'.1 ?_ p'
    · exact Fa.new (f.trans (f'.mono (fun a q => by rw [q, hM]; decide)))
    · rw [s']; simp only [hN_wI, hN_wJ, hN_wR, hS_wI, hS_wJ, hS_wR, hK_wI, hK_wJ, hK_wR, hI_wI, hI_wJ, hI_wR, hJ_wI, hJ_wJ, hJ_wR, hR_wI, hR_wJ, hR_wR, hN_nw, hS_nw, hK_nw, hI_nw, hJ_nw, hR_nw, psh_some, psh_none, Int.toNat_natCast, Int.natCast_nonneg, true_and, and_true, and_self, if_true, if_false, or_true, true_or, or_false, false_or, ne_eq, not_true_eq_false, not_false_eq_true, Nat.reduceLeDiff, Nat.reduceEqDiff, Nat.reduceLT, Nat.reduceAdd, Nat.reduceMul, Nat.reduceSub, Int.reduceLT, Int.reduceLE, Int.reduceEq, Int.reduceToNat, Int.reduceAdd, Int.reduceSub, Int.reduceMul, Int.reduceNeg, Int.cast_ofNat_Int, false_and, and_false]; omega
