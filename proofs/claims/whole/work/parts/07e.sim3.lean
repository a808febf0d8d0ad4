theorem okd_row {L a : Nat} (h : 20 ≤ (okd L a).1 ∧ (okd L a).1 ≤ 26) : (101 ≤ a ∧ a ≤ 126 ∧ okd L a = (20, slen.getD (a - 101) 0)) ∨ (a = 90 ∧ okd L a = (21, 0)) ∨ (a = 91 ∧ okd L a = (21, L)) := by
  by_cases h1 : 1 ≤ a ∧ a ≤ 26
  · simp [okd, h1] at h
  · by_cases h2 : 101 ≤ a ∧ a ≤ 126
    · left; exact ⟨h2.1, h2.2, by simp only [okd, if_neg h1, if_pos h2]⟩
    · by_cases h3 : a = 90
      · right; left; exact ⟨h3, by simp [okd, h3]⟩
      · by_cases h4 : a = 91
        · right; right; exact ⟨h4, by simp [okd, h4]⟩
        · simp [okd, h1, h2, h3, h4] at h
section Sim3
variable {D : va_G} {b0 : Nat} {cA : Nat → ClassId} {av : Nat → Value} {adK adV : Nat → Nat} {L : Nat} {xs : Nat → Int32} {p : Program} {l : Launch} {e : Env} {R : Room} {s : State} {m : MethodId} {args : Array Value} {below : List Frame} {meth : Method} {c : Code} {M : Me} {Q : State → Prop} {s0 pc len nL : Nat} {ls : List (Option PV)} {st t : List PV} {h : Hp} {H : Heap} {locs : List Loc} {cells slots : Nat} {la : Array Slot} {x : Nx}
theorem St.push (S : St D b0 cA av L xs s nL s0 ls st h H locs cells slots la) {v : PV} (hv : okv v) (ht : ∀ w ∈ t, w ∈ st) : St D b0 cA av L xs s nL s0 ls (v :: t) h H locs cells slots la := by
  refine ⟨S.1, S.2.1, fun w hw => ?_, S.2.2.2⟩
  rcases List.mem_cons.mp hw with rfl | hw
  · exact hv
  · exact S.2.2.1 w (ht w hw)
theorem s_iald (F : Fx D b0 cA av adK adV L xs p R s m args meth c M) (hd : decode M.2.2.1 pc = .ok (.iaload, len)) (hs : mald len pc ls st h [21] 0 = some x)
    (kk : Go D b0 cA av L xs p l e R s m args below meth c M s0 Q x) : Go D b0 cA av L xs p l e R s m args below meth c M s0 Q (pc, ls, st, h) := by
  obtain ⟨F1, F2, F3, F4, F5, F6, F7, F8, F9, F10, F11, F12⟩ := F
  unfold mald at hs
  split at hs
  · rename_i z a t
    split at hs
    · rename_i hl
      obtain ⟨rfl, hk, hz0, hz1⟩ := hl
      replace hk : (hK h a).1 = 21 := by simpa using hk
      cases hs
      intro H locs cells slots la S
      dsimp only at S
      have hz : in32 z := S.2.2.1 (.inl z) (by simp)
      have K := kk H locs cells slots la (S.push (v := .inl (hI h a z.toNat)) (t := t) (S.2.2.2.2.1.1 _ _) (fun w hw => by simp [hw]))
      replace K : W p l e R s m args below meth c H locs cells slots Q (F0 m (pc + 1) la (.int (Int32.ofInt (hI h a z.toNat)) :: t.map (cv av))) := K
      show W p l e R s m args below meth c H locs cells slots Q (F0 m pc la (.int (Int32.ofInt z) :: av a :: t.map (cv av)))
      rcases Nat.lt_or_ge a 200 with q | q
      · have hkd := S.2.2.2.2.2.1.1 a q
        rcases okd_row (L := L) (a := a) (by rw [← hkd, hk]; decide) with ⟨-, -, h3⟩ | ⟨-, h3⟩ | ⟨h3, h4⟩
        · rw [hkd, h3] at hk; cases hk
        · rw [hkd, h3] at hz1
          simp at hz1
          omega
        · subst h3
          obtain ⟨b, e1, hX, hb1, hb2⟩ := F9.2.2.2.2.2.2.1
          rw [e1]
          rw [hkd, h4] at hz1
          refine va_sld F1 F2 hX hb1 (by show ¬ b0 ≤ b; omega) S.2.2.2.2.2.2.1 (vp_in_of32 hz hz0 hz1) hd ?_
          rw [of32_clamp hz]
          rw [S.2.2.2.2.2.1.2.2, of32_toInt] at K
          exact K
      · have he := wsl_at (b0 := b0) (av := av) (cA := cA) q (S.rowAt q (by omega))
        rw [En_int hk (by simp)] at he
        rw [F10.1.2.1 a q]
        refine va_iald F1 F2 F9.1 S.2.2.2.1 (a - 200) 1 he rfl (vp_in_of32 hz hz0 hz1) hd ?_
        rw [of32_clamp hz]
        exact K
    · cases hs
  · cases hs
theorem s_lald (F : Fx D b0 cA av adK adV L xs p R s m args meth c M) (hd : decode M.2.2.1 pc = .ok (.laload, len)) (hs : mald len pc ls st h [22] 1 = some x)
    (kk : Go D b0 cA av L xs p l e R s m args below meth c M s0 Q x) : Go D b0 cA av L xs p l e R s m args below meth c M s0 Q (pc, ls, st, h) := by
  obtain ⟨F1, F2, F3, F4, F5, F6, F7, F8, F9, F10, F11, F12⟩ := F
  unfold mald at hs
  split at hs
  · rename_i z a t
    split at hs
    · rename_i hl
      obtain ⟨rfl, hk, hz0, hz1⟩ := hl
      replace hk : (hK h a).1 = 22 := by simpa using hk
      cases hs
      intro H locs cells slots la S
      dsimp only at S
      have hz : in32 z := S.2.2.1 (.inl z) (by simp)
      have K := kk H locs cells slots la (S.push (v := .inr (.inl (hJ h a z.toNat))) (t := t) (S.2.2.2.2.1.2.1 _ _) (fun w hw => by simp [hw]))
      replace K : W p l e R s m args below meth c H locs cells slots Q (F0 m (pc + 1) la (.long (Int64.ofInt (hJ h a z.toNat)) :: t.map (cv av))) := K
      show W p l e R s m args below meth c H locs cells slots Q (F0 m pc la (.int (Int32.ofInt z) :: av a :: t.map (cv av)))
      rcases Nat.lt_or_ge a 200 with q | q
      · have hkd := S.2.2.2.2.2.1.1 a q
        rcases okd_row (L := L) (a := a) (by rw [← hkd, hk]; decide) with ⟨-, -, h3⟩ | ⟨-, h3⟩ | ⟨h3, h4⟩
        · rw [hkd, h3] at hk; cases hk
        · rw [hkd, h3] at hk; cases hk
        · rw [hkd, h4] at hk; cases hk
      · have he := wsl_at (b0 := b0) (av := av) (cA := cA) q (S.rowAt q (by omega))
        rw [En_long hk] at he
        rw [F10.1.2.1 a q]
        refine va_lald F1 F2 F9.1 S.2.2.2.1 (a - 200) 2 he rfl (vp_in_of32 hz hz0 hz1) hd ?_
        rw [of32_clamp hz]
        exact K
    · cases hs
  · cases hs
theorem s_aald (F : Fx D b0 cA av adK adV L xs p R s m args meth c M) (hd : decode M.2.2.1 pc = .ok (.aaload, len)) (hs : mald len pc ls st h [24, 25, 26] 2 = some x)
    (kk : Go D b0 cA av L xs p l e R s m args below meth c M s0 Q x) : Go D b0 cA av L xs p l e R s m args below meth c M s0 Q (pc, ls, st, h) := by
  obtain ⟨F1, F2, F3, F4, F5, F6, F7, F8, F9, F10, F11, F12⟩ := F
  unfold mald at hs
  split at hs
  · rename_i z a t
    split at hs
    · rename_i hl
      obtain ⟨rfl, hk, hz0, hz1⟩ := hl
      replace hk : (hK h a).1 = 24 ∨ (hK h a).1 = 25 ∨ (hK h a).1 = 26 := by simpa using hk
      cases hs
      intro H locs cells slots la S
      dsimp only at S
      have hz : in32 z := S.2.2.1 (.inl z) (by simp)
      have K := kk H locs cells slots la (S.push (v := .inr (.inr (hR h a z.toNat))) (t := t) trivial (fun w hw => by simp [hw]))
      replace K : W p l e R s m args below meth c H locs cells slots Q (F0 m (pc + 1) la (av (hR h a z.toNat) :: t.map (cv av))) := K
      show W p l e R s m args below meth c H locs cells slots Q (F0 m pc la (.int (Int32.ofInt z) :: av a :: t.map (cv av)))
      rcases Nat.lt_or_ge a 200 with q | q
      · have hkd := S.2.2.2.2.2.1.1 a q
        rw [hkd] at hk
        rcases okd_row (L := L) (a := a) (by omega) with ⟨-, -, h3⟩ | ⟨-, h3⟩ | ⟨h3, h4⟩
        · rw [h3] at hk; simp at hk
        · rw [h3] at hk; simp at hk
        · rw [h4] at hk; simp at hk
      · have he := wsl_at (b0 := b0) (av := av) (cA := cA) q (S.rowAt q (by omega))
        rw [F10.1.2.1 a q]
        rw [← rf_rfo F10.1 (hR h a z.toNat)] at K
        rcases hk with hk | hk | hk
        · rw [En_ref hk (by simp)] at he
          refine va_aldq F1 F2 F9.1 S.2.2.2.1 (a - 200) 4 he rfl (vp_in_of32 hz hz0 hz1) hd ?_
          rw [of32_clamp hz]
          exact K
        · rw [En_ref hk (by simp)] at he
          refine va_aldq F1 F2 F9.1 S.2.2.2.1 (a - 200) 5 he rfl (vp_in_of32 hz hz0 hz1) hd ?_
          rw [of32_clamp hz]
          exact K
        · rw [En_ref hk (by simp)] at he
          refine va_aldq F1 F2 F9.1 S.2.2.2.1 (a - 200) 6 he rfl (vp_in_of32 hz hz0 hz1) hd ?_
          rw [of32_clamp hz]
          exact K
    · cases hs
  · cases hs
theorem s_bald (F : Fx D b0 cA av adK adV L xs p R s m args meth c M) (hd : decode M.2.2.1 pc = .ok (.baload, len)) (hs : mald len pc ls st h [20, 23] 0 = some x)
    (kk : Go D b0 cA av L xs p l e R s m args below meth c M s0 Q x) : Go D b0 cA av L xs p l e R s m args below meth c M s0 Q (pc, ls, st, h) := by
  obtain ⟨F1, F2, F3, F4, F5, F6, F7, F8, F9, F10, F11, F12⟩ := F
  unfold mald at hs
  split at hs
  · rename_i z a t
    split at hs
    · rename_i hl
      obtain ⟨rfl, hk, hz0, hz1⟩ := hl
      replace hk : (hK h a).1 = 20 ∨ (hK h a).1 = 23 := by simpa using hk
      cases hs
      intro H locs cells slots la S
      dsimp only at S
      have hz : in32 z := S.2.2.1 (.inl z) (by simp)
      have K := kk H locs cells slots la (S.push (v := .inl (hI h a z.toNat)) (t := t) (S.2.2.2.2.1.1 _ _) (fun w hw => by simp [hw]))
      replace K : W p l e R s m args below meth c H locs cells slots Q (F0 m (pc + 1) la (.int (Int32.ofInt (hI h a z.toNat)) :: t.map (cv av))) := K
      show W p l e R s m args below meth c H locs cells slots Q (F0 m pc la (.int (Int32.ofInt z) :: av a :: t.map (cv av)))
      rcases Nat.lt_or_ge a 200 with q | q
      · have hkd := S.2.2.2.2.2.1.1 a q
        rcases okd_row (L := L) (a := a) (by rw [← hkd]; omega) with ⟨h1, h2, h3⟩ | ⟨-, h3⟩ | ⟨h3, h4⟩
        · obtain ⟨j, rfl⟩ : ∃ j, a = 101 + j := ⟨a - 101, by omega⟩
          have hj : j < 26 := by omega
          rw [hkd, h3, show 101 + j - 101 = j by omega] at hz1
          rw [F10.2.2 j hj]
          refine va_tb F1 F2 (F9.2.1 j hj).2.2.2 S.2.2.2.2.2.2.1 (vp_in_of32 hz hz0 hz1) (v := .int ((sbyt.getD j []).getD z.toNat 0)) (by rw [of32_clamp hz]) hd ?_
          rw [(S.2.2.2.2.2.1.2.1 j hj).2.2, of32_toInt] at K
          exact K
        · rw [hkd, h3] at hk; simp at hk
        · rw [hkd, h4] at hk; simp at hk
      · have he := wsl_at (b0 := b0) (av := av) (cA := cA) q (S.rowAt q (by omega))
        rw [F10.1.2.1 a q]
        rcases hk with hk | hk
        · rw [En_int hk (by simp)] at he
          refine va_bald F1 F2 F9.1 S.2.2.2.1 (a - 200) 0 he rfl (vp_in_of32 hz hz0 hz1) hd ?_
          rw [of32_clamp hz]
          exact K
        · rw [En_int hk (by simp)] at he
          refine va_zald F1 F2 F9.1 S.2.2.2.1 (a - 200) 3 he rfl (vp_in_of32 hz hz0 hz1) hd ?_
          rw [of32_clamp hz]
          exact K
    · cases hs
  · cases hs
theorem s_alen (F : Fx D b0 cA av adK adV L xs p R s m args meth c M) (hL : L ≤ 100000) (hd : decode M.2.2.1 pc = .ok (.arraylength, len)) (hs : mlen len pc ls st h = some x)
    (kk : Go D b0 cA av L xs p l e R s m args below meth c M s0 Q x) : Go D b0 cA av L xs p l e R s m args below meth c M s0 Q (pc, ls, st, h) := by
  obtain ⟨F1, F2, F3, F4, F5, F6, F7, F8, F9, F10, F11, F12⟩ := F
  unfold mlen at hs
  split at hs
  · rename_i a t
    split at hs
    · rename_i hl
      obtain ⟨rfl, hk1, hk2⟩ := hl
      cases hs
      intro H locs cells slots la S
      dsimp only at S
      have hok : in32 ((hK h a).2 : Int) := by
        have := S.2.2.2.2.1.2.2.2 a
        unfold in32; omega
      have K := kk H locs cells slots la (S.push (v := .inl ((hK h a).2 : Int)) (t := t) hok (fun w hw => by simp [hw]))
      replace K : W p l e R s m args below meth c H locs cells slots Q (F0 m (pc + 1) la (.int (Int32.ofInt ((hK h a).2 : Int)) :: t.map (cv av))) := K
      have ecast : Int32.ofInt ((hK h a).2 : Int) = Int32.ofNat (hK h a).2 := rfl
      show W p l e R s m args below meth c H locs cells slots Q (F0 m pc la (av a :: t.map (cv av)))
      rcases Nat.lt_or_ge a 200 with q | q
      · have hkd := S.2.2.2.2.2.1.1 a q
        rcases okd_row (L := L) (a := a) (by rw [← hkd]; omega) with ⟨h1, h2, h3⟩ | ⟨rfl, h3⟩ | ⟨rfl, h4⟩
        · obtain ⟨j, rfl⟩ : ∃ j, a = 101 + j := ⟨a - 101, by omega⟩
          have hj : j < 26 := by omega
          rw [F10.2.2 j hj]
          refine va_tlen F1 F2 (F9.2.1 j hj).2.2.2 S.2.2.2.2.2.2.1 rfl hd ?_
          rw [ecast, hkd, h3, show 101 + j - 101 = j by omega] at K
          exact K
        · obtain ⟨t0, e1, -, hT⟩ := F9.2.2.2.1
          rw [e1]
          refine va_tlen F1 F2 hT S.2.2.2.2.2.2.1 rfl hd ?_
          rw [ecast, hkd, h3] at K
          exact K
        · obtain ⟨b, e1, hX, hb1, hb2⟩ := F9.2.2.2.2.2.2.1
          rw [e1]
          refine va_slen F1 F2 hX hb1 (by show ¬ b0 ≤ b; omega) S.2.2.2.2.2.2.1 hd ?_
          rw [ecast, hkd, h4] at K
          exact K
      · have he := wsl_at (b0 := b0) (av := av) (cA := cA) q (S.rowAt q hk2)
        rw [F10.1.2.1 a q]
        rw [ecast] at K
        have hcases : (hK h a).1 = 20 ∨ (hK h a).1 = 21 ∨ (hK h a).1 = 22 ∨ (hK h a).1 = 23 ∨ (hK h a).1 = 24 ∨ (hK h a).1 = 25 ∨ (hK h a).1 = 26 := by omega
        rcases hcases with hk | hk | hk | hk | hk | hk | hk
        · rw [En_int hk (by simp)] at he
          exact va_alen F1 F2 F9.1 S.2.2.2.1 (a - 200) 0 he (ty := .byte) rfl rfl hd K
        · rw [En_int hk (by simp)] at he
          exact va_alen F1 F2 F9.1 S.2.2.2.1 (a - 200) 1 he (ty := .int) rfl rfl hd K
        · rw [En_long hk] at he
          exact va_alen F1 F2 F9.1 S.2.2.2.1 (a - 200) 2 he (ty := .long) rfl rfl hd K
        · rw [En_int hk (by simp)] at he
          exact va_alen F1 F2 F9.1 S.2.2.2.1 (a - 200) 3 he (ty := .boolean) rfl rfl hd K
        · rw [En_ref hk (by simp)] at he
          exact va_alen F1 F2 F9.1 S.2.2.2.1 (a - 200) 4 he (ty := .object RX2) rfl rfl hd K
        · rw [En_ref hk (by simp)] at he
          exact va_alen F1 F2 F9.1 S.2.2.2.1 (a - 200) 5 he (ty := .object RX8) rfl rfl hd K
        · rw [En_ref hk (by simp)] at he
          exact va_alen F1 F2 F9.1 S.2.2.2.1 (a - 200) 6 he (ty := .object RX10) rfl rfl hd K
    · cases hs
  · cases hs
/-- behind a store into a row -/
theorem St.stored {h' : Hp} {H1 : Heap} {locs1 : List Loc} (S : St D b0 cA av L xs s nL s0 ls st h H locs cells slots la) (ht : ∀ w ∈ t, w ∈ st) (hP : va_P D vwCl (wsl b0 av cA h') H1) (hS1 : va_S (fun q => b0 ≤ q) s.heap H1 locs1) (hN' : hN h' = hN h) (hS' : hS h' = hS h) (hK' : ∀ b, hK h' b = hK h b) (hok : okh h') (hold : OldEq L xs h') : St D b0 cA av L xs s nL s0 ls t h' H1 locs1 cells slots la := by
  refine ⟨S.1, S.2.1, fun w hw => S.2.2.1 w (ht w hw), hP, hok, hold, hS1, ?_, ?_, ?_⟩
  · rw [hN']; exact S.2.2.2.2.2.2.2.1
  · rw [hS']; exact S.2.2.2.2.2.2.2.2.1
  · intro b hb1 hb2
    rw [hK']
    exact S.2.2.2.2.2.2.2.2.2 b hb1 (by rw [hN'] at hb2; exact hb2)
theorem s_iast (F : Fx D b0 cA av adK adV L xs p R s m args meth c M) (hd : decode M.2.2.1 pc = .ok (.iastore, len)) (hs : miast len pc ls st h = some x)
    (kk : Go D b0 cA av L xs p l e R s m args below meth c M s0 Q x) : Go D b0 cA av L xs p l e R s m args below meth c M s0 Q (pc, ls, st, h) := by
  obtain ⟨F1, F2, F3, F4, F5, F6, F7, F8, F9, F10, F11, F12⟩ := F
  unfold miast at hs
  split at hs
  · rename_i v z a t
    split at hs
    · rename_i hl
      obtain ⟨rfl, q, hk, hz0, hz1⟩ := hl
      cases hs
      intro H locs cells slots la S
      dsimp only at S
      have hz : in32 z := S.2.2.1 (.inl z) (by simp)
      have hv : in32 v := S.2.2.1 (.inl v) (by simp)
      have he := wsl_at (b0 := b0) (av := av) (cA := cA) q (S.rowAt q (by omega))
      rw [En_int hk (by simp)] at he
      show W p l e R s m args below meth c H locs cells slots Q (F0 m pc la (.int (Int32.ofInt v) :: .int (Int32.ofInt z) :: av a :: t.map (cv av)))
      rw [F10.1.2.1 a q]
      refine va_iast F1 F2 F9.1 S.2.2.2.1 (wsl_D b0 av cA h) S.2.2.2.2.2.2.1 (a - 200) 1 he rfl (vp_in_of32 hz hz0 hz1) hd (fun H1 locs1 hP hD hS1 => ?_)
      have hE : En av cA (wI h a z.toNat v) a = .inl (cA 21, (hK h a).2, .inl (upd (fun i => Int32.ofInt (hI h a i)) (Int32.ofInt z).toNatClampNeg (Int32.ofInt v))) := by
        rw [En_int (c := 21) (by rw [hK_wI]; exact hk) (by simp), hK_wI, of32_clamp hz]
        congr 4
        funext i
        unfold upd
        rw [hI_wI]
        by_cases hi : i = z.toNat <;> simp [hi]
      rw [wsl_set (h := h) (h' := (wI h a z.toNat v)) q rfl hE (fun b hb => En_wI hb)] at hP
      exact kk H1 locs1 cells slots la (S.stored (fun w hw => by simp [hw]) hP hS1 rfl rfl (fun _ => rfl) (okh_wI S.2.2.2.2.1 hv) (OldEq_wI S.2.2.2.2.2.1 q))
    · cases hs
  · cases hs
theorem s_last (F : Fx D b0 cA av adK adV L xs p R s m args meth c M) (hd : decode M.2.2.1 pc = .ok (.lastore, len)) (hs : mlast len pc ls st h = some x)
    (kk : Go D b0 cA av L xs p l e R s m args below meth c M s0 Q x) : Go D b0 cA av L xs p l e R s m args below meth c M s0 Q (pc, ls, st, h) := by
  obtain ⟨F1, F2, F3, F4, F5, F6, F7, F8, F9, F10, F11, F12⟩ := F
  unfold mlast at hs
  split at hs
  · rename_i v z a t
    split at hs
    · rename_i hl
      obtain ⟨rfl, q, hk, hz0, hz1⟩ := hl
      cases hs
      intro H locs cells slots la S
      dsimp only at S
      have hz : in32 z := S.2.2.1 (.inl z) (by simp)
      have hv : in64 v := S.2.2.1 (.inr (.inl v)) (by simp)
      have he := wsl_at (b0 := b0) (av := av) (cA := cA) q (S.rowAt q (by omega))
      rw [En_long hk] at he
      show W p l e R s m args below meth c H locs cells slots Q (F0 m pc la (.long (Int64.ofInt v) :: .int (Int32.ofInt z) :: av a :: t.map (cv av)))
      rw [F10.1.2.1 a q]
      refine va_last F1 F2 F9.1 S.2.2.2.1 (wsl_D b0 av cA h) S.2.2.2.2.2.2.1 (a - 200) 2 he rfl (vp_in_of32 hz hz0 hz1) hd (fun H1 locs1 hP hD hS1 => ?_)
      have hE : En av cA (wJ h a z.toNat v) a = .inl (cA 22, (hK h a).2, .inr (.inl (vp_updL (fun i => Int64.ofInt (hJ h a i)) (Int32.ofInt z).toNatClampNeg (Int64.ofInt v)))) := by
        rw [En_long (by rw [hK_wJ]; exact hk), hK_wJ, of32_clamp hz]
        congr 5
        funext i
        unfold vp_updL
        rw [hJ_wJ]
        by_cases hi : i = z.toNat <;> simp [hi]
      rw [wsl_set (h := h) (h' := (wJ h a z.toNat v)) q rfl hE (fun b hb => En_wJ hb)] at hP
      exact kk H1 locs1 cells slots la (S.stored (fun w hw => by simp [hw]) hP hS1 rfl rfl (fun _ => rfl) (okh_wJ S.2.2.2.2.1 hv) (OldEq_wJ S.2.2.2.2.2.1))
    · cases hs
  · cases hs
theorem s_bast (F : Fx D b0 cA av adK adV L xs p R s m args meth c M) (hd : decode M.2.2.1 pc = .ok (.bastore, len)) (hs : mbast len pc ls st h = some x)
    (kk : Go D b0 cA av L xs p l e R s m args below meth c M s0 Q x) : Go D b0 cA av L xs p l e R s m args below meth c M s0 Q (pc, ls, st, h) := by
  obtain ⟨F1, F2, F3, F4, F5, F6, F7, F8, F9, F10, F11, F12⟩ := F
  unfold mbast at hs
  split at hs
  · rename_i v z a t
    split at hs
    · rename_i hl
      obtain ⟨rfl, q, hk, hz0, hz1⟩ := hl
      cases hs
      intro H locs cells slots la S
      dsimp only at S
      have hz : in32 z := S.2.2.1 (.inl z) (by simp)
      have he := wsl_at (b0 := b0) (av := av) (cA := cA) q (S.rowAt q (by omega))
      rw [En_int hk (by simp)] at he
      show W p l e R s m args below meth c H locs cells slots Q (F0 m pc la (.int (Int32.ofInt v) :: .int (Int32.ofInt z) :: av a :: t.map (cv av)))
      rw [F10.1.2.1 a q]
      refine va_bast F1 F2 F9.1 S.2.2.2.1 (wsl_D b0 av cA h) S.2.2.2.2.2.2.1 (a - 200) 0 he rfl (vp_in_of32 hz hz0 hz1) hd (fun H1 locs1 hP hD hS1 => ?_)
      have hE : En av cA (wI h a z.toNat (w8 v)) a = .inl (cA 20, (hK h a).2, .inl (upd (fun i => Int32.ofInt (hI h a i)) (Int32.ofInt z).toNatClampNeg (vp_nar .byte (Int32.ofInt v)))) := by
        rw [En_int (c := 20) (by rw [hK_wI]; exact hk) (by simp), hK_wI, of32_clamp hz]
        congr 4
        funext i
        unfold upd
        rw [hI_wI, vp_nar_byte]
        by_cases hi : i = z.toNat
        · rw [if_pos ⟨rfl, hi⟩, if_pos hi]; unfold w8; rw [of32_toInt]
        · simp [hi]
      rw [wsl_set (h := h) (h' := (wI h a z.toNat (w8 v))) q rfl hE (fun b hb => En_wI hb)] at hP
      exact kk H1 locs1 cells slots la (S.stored (fun w hw => by simp [hw]) hP hS1 rfl rfl (fun _ => rfl) (okh_wI S.2.2.2.2.1 (in32_toInt _)) (OldEq_wI S.2.2.2.2.2.1 q))
    · split at hs
      · rename_i hl
        obtain ⟨rfl, q, hk, hz0, hz1, hb⟩ := hl
        cases hs
        intro H locs cells slots la S
        dsimp only at S
        have hz : in32 z := S.2.2.1 (.inl z) (by simp)
        have hv : in32 v := S.2.2.1 (.inl v) (by simp)
        have he := wsl_at (b0 := b0) (av := av) (cA := cA) q (S.rowAt q (by omega))
        rw [En_int hk (by simp)] at he
        show W p l e R s m args below meth c H locs cells slots Q (F0 m pc la (.int (Int32.ofInt v) :: .int (Int32.ofInt z) :: av a :: t.map (cv av)))
        rw [F10.1.2.1 a q]
        refine va_zast F1 F2 F9.1 S.2.2.2.1 (wsl_D b0 av cA h) S.2.2.2.2.2.2.1 (a - 200) 3 he rfl (vp_in_of32 hz hz0 hz1) hd (fun H1 locs1 hP hD hS1 => ?_)
        have hnz : vp_nar .boolean (Int32.ofInt v) = Int32.ofInt v := by
          rcases hb with rfl | rfl <;> decide
        have hE : En av cA (wI h a z.toNat v) a = .inl (cA 23, (hK h a).2, .inl (upd (fun i => Int32.ofInt (hI h a i)) (Int32.ofInt z).toNatClampNeg (vp_nar .boolean (Int32.ofInt v)))) := by
          rw [En_int (c := 23) (by rw [hK_wI]; exact hk) (by simp), hK_wI, of32_clamp hz]
          congr 4
          funext i
          unfold upd
          rw [hI_wI, hnz]
          by_cases hi : i = z.toNat <;> simp [hi]
        rw [wsl_set (h := h) (h' := (wI h a z.toNat v)) q rfl hE (fun b hb => En_wI hb)] at hP
        exact kk H1 locs1 cells slots la (S.stored (fun w hw => by simp [hw]) hP hS1 rfl rfl (fun _ => rfl) (okh_wI S.2.2.2.2.1 hv) (OldEq_wI S.2.2.2.2.2.1 q))
      · cases hs
  · cases hs
end Sim3
