/-! where the loop begins -/
def σ0 : AS := (fun _ => 0, fun _ => 0, 0, fun _ => 0, 0, -1, fun _ => -1, fun _ => 0, fun _ => 0)
theorem z_0 : (0 : Int) ≤ 0 := by decide
theorem z_99 : (0 : Int) ≤ 99 := by decide
theorem z_9 : (0 : Int) ≤ 9 := by decide
theorem z_40 : (0 : Int) ≤ 40 := by decide
theorem z_1 : ¬ (0 : Int) = 1 := by decide
theorem z_m : (-1 : Int) ≤ -1 := by decide
theorem z_m3 : (-1 : Int) ≤ 3 := by decide
theorem st0_ok : stOk (fun _ => 0) := ⟨by decide, by decide, by decide, by decide, fun _ _ => ⟨z_0, z_99, z_0, z_9⟩⟩
theorem law0 (l : Nat) : lawA (fun _ => 0) l = [] := rfl
theorem po0_ok : poolOk (fun _ => 0) := by
  refine ⟨by decide, by decide, by decide, by decide, ⟨by decide, fun t ht => absurd ht (by show ¬ t < 0; omega), ?_, ?_⟩, fun _ _ => z_0, fun _ _ => ⟨Or.inl rfl, fun q => absurd q z_1⟩, fun _ _ => ⟨z_0, z_9⟩⟩
  · exact ⟨Nat.zero_le 900, Or.inl rfl⟩
  · exact ⟨Nat.zero_le 900, Or.inl rfl⟩
theorem WF0 : WF σ0 := ⟨po0_ok, st0_ok, z_0, (show (0 : Int) ≤ 10 by decide), fun i hi => absurd hi (by show ¬ i < 0; omega), fun _ _ => ⟨Or.inl rfl, fun q => absurd q z_1⟩, Nat.zero_le 900, fun k hk => absurd hk (by show ¬ k < 0; omega), fun _ _ => ⟨z_m, z_m3, z_0, z_40⟩⟩
theorem R0 {G : Hp} (md : MdOk G) (mz : Mz G) : RRep G σ0 := by
  obtain ⟨z1, z2, z3, z4, z5, z6, z7⟩ := mz
  exact ⟨md, fun k _ => z1 k, fun i _ => z2 i, z3, fun k hk => absurd hk (by show ¬ k < 0; omega), z4, z5, fun i hi => z6 i hi, fun k _ => z7 k⟩
theorem n280 {a : Nat} (h : a ≠ 294) : ¬ (fun a => a = 294) a := h
theorem n280r {a m : Nat} (h : a + m < 294) : ∀ i, i ≤ m → ¬ (fun a => a = 294) (a + i) := fun i hi q => by have q : a + i = 294 := q; omega
theorem C0 {h H G : Hp} (c : Cini h H) (n90 : hK h 90 = (21, 0)) (f : Fa (fun a => a = 294) H G) (nG : hN G = 114) : CRep G σ0 := by
  obtain ⟨nH, _, fh, K200, K262, K271, V200, V262, V271, rd, di, s1, s2, pa, po, t0, t1, t2, t3, m0, m1⟩ := c
  have lt : ∀ a, a < 294 → a < 200 + hN H := fun a ha => by rw [nH]; exact ha
  have r0 : ∀ a k, a < 294 → hR G a k = hR H a k := fun a k ha => f.R (lt a ha) (n280 (by omega)) k
  have kk : ∀ a, a < 294 → hK G a = hK H a := fun a ha => f.K (lt a ha) (n280 (by omega))
  have V2 : ∀ k, hR G 200 k = _ := fun k => (r0 200 k (by decide)).trans (V200 k)
  have V3 : ∀ k, hR G 262 k = _ := fun k => (r0 262 k (by decide)).trans (V262 k)
  have V4 : ∀ k, hR G 271 k = _ := fun k => (r0 271 k (by decide)).trans (V271 k)
  have rd := rd.fa f (by rw [nH]; decide) (n280r (by decide))
  have di := di.fa f (by rw [nH]; decide) (n280r (by decide))
  have s1 := s1.fa f (by rw [nH]; decide) (n280 (by decide)) (n280 (by decide)) (n280 (by decide))
  have s2 := s2.fa f (by rw [nH]; decide) (n280 (by decide)) (n280 (by decide)) (n280 (by decide))
  have pa := pa.fa f (by rw [nH]; decide) (fun a _ h2 q => by have q : a = 294 := q; omega)
  have po := po.fa f (by rw [nH]; decide) (n280r (by decide))
  have t0 := t0.fa f (by rw [nH]; decide) (n280r (by decide))
  have t1 := t1.fa f (by rw [nH]; decide) (n280r (by decide))
  have t2 := t2.fa f (by rw [nH]; decide) (n280r (by decide))
  have t3 := t3.fa f (by rw [nH]; decide) (n280r (by decide))
  have m0 := m0.fa f (by rw [nH]; decide) (n280r (by decide))
  have m1 := m1.fa f (by rw [nH]; decide) (n280r (by decide))
  have R7 : hR G 200 7 = 255 := V2 7
  have R8 : hR G 200 8 = 0 := V2 8
  have R9 : hR G 200 9 = 0 := V2 9
  have R10 : hR G 200 10 = 0 := V2 10
  have k90 : hK G 90 = (21, 0) := (kk 90 (by decide)).trans ((fh.K (by omega) (by unfold cS; omega)).trans n90)
  have rc : ∀ i, i < 11 → hR G 221 i = 222 + 3 * i ∧ hK G (222 + 3 * i) = (8, 0) ∧ hR G (222 + 3 * i) 0 = 223 + 3 * i ∧ hR G (222 + 3 * i) 1 = 224 + 3 * i ∧ hK G (223 + 3 * i) = (21, 6) ∧ hK G (224 + 3 * i) = (21, 6) := fun i hi => by
    obtain ⟨x0, x1, x2, x3, x4, x5, _⟩ := pa.2.2.2.2.2 i hi
    rw [show 222 + 3 * i + 1 = 223 + 3 * i by omega] at x2 x4
    rw [show 222 + 3 * i + 2 = 224 + 3 * i by omega] at x3 x5
    exact ⟨x0, x1, x2, x3, x4, x5⟩
  refine ⟨⟨?_, ?_, ⟨?_, ?_⟩, ?_, ?_, ?_, ?_, ?_⟩, ?_⟩
  · exact ⟨(kk 200 (by decide)).trans K200, V2 0, V2 1, V2 2, V2 3, V2 4, V2 5, V2 6, rd.1, rd.2.1, rd.2.2.1, rd.2.2.2.1, rd.2.2.2.2.1, di.1, di.2.1, di.2.2.1, di.2.2.2.1, di.2.2.2.2, s1.1, s1.2.1, s1.2.2.1, s1.2.2.2.1, s1.2.2.2.2.1, s2.1, s2.2.1, s2.2.2.1, s2.2.2.2.1, s2.2.2.2.2.1, pa.1, pa.2.1, pa.2.2.1, (kk 262 (by decide)).trans K262, (kk 271 (by decide)).trans K271, V4 0, V4 1, m0.1, m1.1, m0.2.1, m1.2.1, m0.2.2.2.1, m0.2.2.2.2.1, m0.2.2.2.2.2.1, m0.2.2.2.2.2.2.1, m0.2.2.2.2.2.2.2.1, m1.2.2.2.1, m1.2.2.2.2.1, m1.2.2.2.2.2.1, m1.2.2.2.2.2.2.1, m1.2.2.2.2.2.2.2.1, V3 0, t0.1, t0.2.1, t0.2.2.1, V3 1, t1.1, t1.2.1, t1.2.2.1, V3 2, t2.1, t2.2.1, t2.2.2.1, V3 3, t3.1, t3.2.1, t3.2.2.1, rc⟩
  · rw [nG]; decide
  · rw [R7]
    obtain ⟨p0, p1, p2, p3, p4, p5, p6, p7, p8, p9, p10, p11⟩ := po
    refine ⟨⟨by decide, p0, p1, p2, p3, p7, p8, p9, (p11 10).1, fun t ht => absurd ht (by show ¬ t < 0; omega), ?_, ?_⟩, (p11 11).1, (p11 12).1, p4, p10, fun g _ => (p11 g).2⟩
    · rw [p5]; exact ⟨k90, Or.inl (by decide), fun j hj => absurd hj (by show ¬ j < 0; omega)⟩
    · rw [p6]; exact ⟨k90, Or.inl (by decide), fun j hj => absurd hj (by show ¬ j < 0; omega)⟩
  · rw [R7]
    refine ⟨by decide, fun a ha => ?_⟩
    unfold PlCell at ha
    rw [po.2.2.2.2.2.1, po.2.2.2.2.2.2.1] at ha
    unfold Dy
    rw [R8, R9, R10, nG]
    refine ⟨by omega, by omega, by omega⟩
  · exact ⟨(s1.2.2.2.2.2 2).1, (s1.2.2.2.2.2 3).1, fun g _ => ⟨(s1.2.2.2.2.2 g).2.1, (s1.2.2.2.2.2 g).2.2⟩⟩
  · exact ⟨0, by decide, pa.2.2.2.1, pa.2.2.2.2.1, fun i hi => absurd hi (by show ¬ i < 0; omega)⟩
  · intro i hi
    refine ⟨?_, fun q => absurd rfl q⟩
    have e : i = 0 ∨ i = 1 ∨ i = 2 ∨ i = 3 := by omega
    rcases e with rfl | rfl | rfl | rfl
    · exact t0.2.2.2
    · exact t1.2.2.2
    · exact t2.2.2.2
    · exact t3.2.2.2
  · intro i hi
    refine ⟨?_, fun q => absurd q (by show ¬ (0 : Int) = 1; decide)⟩
    have e : i = 0 ∨ i = 1 := by omega
    rcases e with rfl | rfl
    · exact m0.2.2.1
    · exact m1.2.2.1
  · exact ⟨rd.2.2.2.2.2.1, fun k hk => absurd hk (by show ¬ k < 0; omega), rd.2.2.2.2.2.2.1, rd.2.2.2.2.2.2.2⟩
  · exact ⟨⟨Or.inl R8, Or.inl R9, Or.inl R10⟩, fun q => absurd R8 q, fun q => absurd R9 q, fun q => absurd R10 q⟩
theorem ph0_n {a b c e : Nat} (h : a = 114) (hb : b ≤ 12) (hc : c ≤ 7) (he : e ≤ 6) : a + b + c + e ≤ 314 + 920 * 0 := by omega
theorem ph0_s {a b c e s : Nat} (h : a ≤ s + 200000) (h2 : s ≤ 5000) (hb : b ≤ 80000) (hc : c ≤ 26000) (he : e ≤ 84000) : a + b + c + e ≤ 600000 + 2000 * 0 := by omega
theorem ite_le {p : Prop} [Decidable p] (n : Nat) : (if p then n else 0) ≤ n := by split <;> omega
theorem lwR_1 {a b c L : Nat} (p : b ≤ 314 + 920 * c) (q : a ≤ b) (hc : 6 * c ≤ L) (hL : L ≤ 3072) : a ≤ 590000 := by
  have h : c ≤ 512 := by omega
  exact Nat.le_trans q (Nat.le_trans p (Nat.le_trans (Nat.add_le_add_left (Nat.mul_le_mul_left 920 h) 314) (by decide)))
theorem lwR_2 {a b c L : Nat} (p : b ≤ 600000 + 2000 * c) (q : a ≤ b) (hc : 6 * c ≤ L) (hL : L ≤ 3072) : a ≤ 4000000 := by
  have h : c ≤ 512 := by omega
  exact Nat.le_trans q (Nat.le_trans p (Nat.le_trans (Nat.add_le_add_left (Nat.mul_le_mul_left 2000 h) 600000) (by decide)))
theorem lw_start {d : Nat} {Q : Option PV → Hp → Prop} {L : Nat} {xs : Nat → Int32} (k : ∀ h, LI L xs h σ0 0 → WP (d + 80) mL_law 18 [some (.inr (.inr 91)), some (.inr (.inr 200)), some (.inr (.inr 294)), some (.inl ((0 : Nat) : Int))] [] h Q) : WP (d + 80) mL_law 0 [some (.inr (.inr 91)), none, none, none] [] (h00 L xs) Q := by
  have e0 : hN (h00 L xs) = 0 := rfl
  simp only [rL_law_0, rL_law_3, rL_law_4, e0, Int.toNat_natCast, Int.natCast_nonneg, true_and, and_true, and_self, if_true, if_false, or_true, true_or, or_false, false_or, ne_eq, not_true_eq_false, not_false_eq_true, Nat.reduceLeDiff, Nat.reduceEqDiff, Nat.reduceLT, Nat.reduceAdd, Nat.reduceMul, Nat.reduceSub, Int.reduceLT, Int.reduceLE, Int.reduceEq, Int.reduceToNat, Int.reduceAdd, Int.reduceSub, Int.reduceMul, Int.reduceNeg, Int.cast_ofNat_Int, false_and, and_false]
  refine I_board (d := d + 77) (h := nw (h00 L xs) 11 0 11) rfl rfl (fun _ => rfl) ?_
  intro H c
  have nH := c.1
  simp only [psh_none, rL_law_7, rL_law_8, rL_law_11, rL_law_12, nH, Int.toNat_natCast, Int.natCast_nonneg, true_and, and_true, and_self, if_true, if_false, or_true, true_or, or_false, false_or, ne_eq, not_true_eq_false, not_false_eq_true, Nat.reduceLeDiff, Nat.reduceEqDiff, Nat.reduceLT, Nat.reduceAdd, Nat.reduceMul, Nat.reduceSub, Int.reduceLT, Int.reduceLE, Int.reduceEq, Int.reduceToNat, Int.reduceAdd, Int.reduceSub, Int.reduceMul, Int.reduceNeg, Int.cast_ofNat_Int, false_and, and_false]
  refine I_model (d := d + 78) (g0 := nw H 12 0 38) (by rw [hN_nw, nH]) (by rw [hK_nw, nH]; rfl) (fun q => by rw [hR_nw, nH]; rfl) (fun q => by rw [hI_nw, nH]; rfl) ?_
  intro G f n s md mz
  simp only [psh_none, rL_law_15, rL_law_16, rL_law_17]
  have fG : Fa (fun a => a = 294) H G := Fa.trans ((Fa.refl _ H).nw 12 0 38) f
  have sc := c.2.1
  have fS := c.2.2.1
  refine k G ⟨C0 c rfl fG n, R0 md mz, WF0, ?_, fun j => ?_, ?_, ?_, ?_⟩
  · exact (fG.K (by rw [nH]; decide) (n280 (by decide))).trans ((fS.K (show 91 < 200 + 1 by decide) (by unfold cS; omega)).trans rfl)
  · exact (fG.I (by rw [nH]; decide) (n280 (by decide)) j).trans ((fS.I (show 91 < 200 + 1 by decide) (by unfold cS; omega) j).trans rfl)
  · unfold Phn; exact ph0_n n (ite_le 12) (ite_le 7) (ite_le 6)
  · unfold Phs
    refine ph0_s s ?_ ?_ ?_ ?_
    · rw [hS_nw]; exact Nat.le_trans (Nat.add_le_add_right sc 38) (show 0 + 11 + 4000 + 38 ≤ 5000 by decide)
    · exact ite_le 80000
    · exact ite_le 26000
    · exact ite_le 84000
  · exact (Sg.eq (Sg.fa Sg0 (Fa.refl (fun a => 200 ≤ a) (h00 L xs)) (fun _ h => h)) (fun a ha => ⟨(fG.K (by rw [nH]; omega) (n280 (by omega))).trans ((fS.K (show a < 200 + 1 by omega) (by unfold cS; omega)).trans (by rw [hK_nw, e0, if_neg (by omega)])), fun k => ⟨(fG.I (by rw [nH]; omega) (n280 (by omega)) k).trans ((fS.I (show a < 200 + 1 by omega) (by unfold cS; omega) k).trans (by rw [hI_nw, e0, if_neg (by omega)])), (fG.R (by rw [nH]; omega) (n280 (by omega)) k).trans ((fS.R (show a < 200 + 1 by omega) (by unfold cS; omega) k).trans (by rw [hR_nw, e0, if_neg (by omega)]))⟩⟩))
/-- the law, as soon as both sides' pool is known -/
theorem lw_all {L : Nat} {xs : Nat → Int32} (hL : L ≤ 3072) (po : ∀ (σ : AS) (n : Int), WF σ → i32 n → ∃ y σ', WF σ' ∧ CSpS (920 + 79) mX11_pool [some (.inr (.inr 200)), some (.inl n), none] σ (.inl y) σ' ∧ RSpS (920 + 79) mX12_pool [some (.inr (.inr 294)), some (.inl n), none] σ (.inl y) σ') : ∃ (n : Nat) (h' : Hp), ex n 1000 mL_law 0 [some (.inr (.inr 91)), none, none, none] [] (h00 L xs) = some (some (.inl 1), h') ∧ hN h' ≤ 590000 ∧ hS h' ≤ 4000000 := by
  have w : WP (920 + 80) mL_law 0 [some (.inr (.inr 91)), none, none, none] [] (h00 L xs) (fun r h' => r = some (.inl 1) ∧ hN h' ≤ 590000 ∧ hS h' ≤ 4000000) := by
    refine lw_start (fun h li => lw_loop hL po (fun h' σ c li' hc => ⟨rfl, ?_, ?_⟩) L 0 0 h σ0 (by omega) (Nat.zero_le _) (Nat.le_refl _) li)
    · have p := li'.2.2.2.2.2.1
      have q : hN h' ≤ Phn h' := by unfold Phn; omega
      exact lwR_1 p q hc hL
    · have p := li'.2.2.2.2.2.2.1
      have q : hS h' ≤ Phs h' := by unfold Phs; omega
      exact lwR_2 p q hc hL
  obtain ⟨n, r, h', e, rfl, b, c⟩ := w
  exact ⟨n, h', e, b, c⟩
