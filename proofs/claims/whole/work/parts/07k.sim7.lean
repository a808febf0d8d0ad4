section Sim7
variable {D : va_G} {b0 : Nat} {cA : Nat → ClassId} {av : Nat → Value} {adK adV : Nat → Nat} {L : Nat} {xs : Nat → Int32} {p : Program} {l : Launch} {e : Env} {R : Room} {s : State} {m : MethodId} {args : Array Value} {below : List Frame} {meth : Method} {c : Code} {M : Me} {Q : State → Prop} {s0 pc len nL : Nat} {ls : List (Option PV)} {st t : List PV} {h : Hp} {H : Heap} {locs : List Loc} {cells slots : Nat} {la : Array Slot} {x : Nx}
theorem ref_cases (hav : AvOk b0 av) {P : Value → Prop} (h0 : P .null) (h1 : ∀ q, P (.ref q)) (a : Nat) : P (av a) := by
  rcases hav.2.2 a with h | ⟨q, h⟩ <;> rw [h]
  · exact h0
  · exact h1 q
theorem ld_ref (hav : AvOk b0 av) {i k : Nat} {rest : List Value} (h0 : la[i]? = some (.val .null) → W p l e R s m args below meth c H locs cells slots Q (F0 m (pc + k) la (.null :: rest)) → W p l e R s m args below meth c H locs cells slots Q (F0 m pc la rest)) (h1 : ∀ q, la[i]? = some (.val (.ref q)) → W p l e R s m args below meth c H locs cells slots Q (F0 m (pc + k) la (.ref q :: rest)) → W p l e R s m args below meth c H locs cells slots Q (F0 m pc la rest)) (a : Nat)
    (hl : la[i]? = some (.val (av a))) (w : W p l e R s m args below meth c H locs cells slots Q (F0 m (pc + k) la (av a :: rest))) : W p l e R s m args below meth c H locs cells slots Q (F0 m pc la rest) := by
  rcases hav.2.2 a with h | ⟨q, h⟩ <;> rw [h] at hl w
  · exact h0 hl w
  · exact h1 q hl w
theorem no_put14 {k w bl : Nat} (hs : mput len pc ls st h 14 k w bl = some x) : Go D b0 cA av L xs p l e R s m args below meth c M s0 Q (pc, ls, st, h) := by
  have ha : ∃ a, 200 ≤ a ∧ (hK h a).1 = 14 := by
    unfold mput at hs
    split at hs
    · split at hs
      · rename_i hl
        exact ⟨_, hl.2.2.2.1, hl.2.2.1⟩
      · cases hs
    · split at hs
      · rename_i hl
        exact ⟨_, hl.2.2.2, hl.2.2.1⟩
      · cases hs
    · split at hs
      · rename_i hl
        exact ⟨_, hl.2.2.2, hl.2.2.1⟩
      · cases hs
    · cases hs
  obtain ⟨a, h1, h2⟩ := ha
  intro H locs cells slots la S
  dsimp only at S
  exfalso
  rcases Nat.lt_or_ge a (200 + hN h) with q | q
  · have := S.2.2.2.2.2.2.2.2.2 a h1 q
    omega
  · have := S.2.2.2.2.1.2.2.1 a q
    omega
theorem sim_step {i : Instr} (F : Fx D b0 cA av adK adV L xs p R s m args meth c M) (hini : 100 ≤ M.1 → M.2.1.name = "<init>") (hL : L ≤ 100000) (hd : decode M.2.2.1 pc = .ok (i, len)) (hs : stp (tbl M.1) i len pc ls st h = some x) (hRc : b0 + hN x.2.2.2 ≤ s.heap.size + R.cells) (hRs : hS x.2.2.2 ≤ s0 + R.slots)
    (kk : Go D b0 cA av L xs p l e R s m args below meth c M s0 Q x) : Go D b0 cA av L xs p l e R s m args below meth c M s0 Q (pc, ls, st, h) := by
  have F1 := F.1
  have F2 := F.2.1
  have F7 := F.2.2.2.2.2.2.1
  have hav : AvOk b0 av := F.2.2.2.2.2.2.2.2.2.1.1
  cases i with
  | iconst n => exact s_cI (lo := -1) (hi := 5) hs (by decide) (by decide) (fun hl _ _ H locs cells slots la w => by subst hl; exact lv_iconst F1 F2 hd rfl w) kk
  | bipush n => exact s_cI (lo := -128) (hi := 127) hs (by decide) (by decide) (fun hl h1 h2 H locs cells slots la w => by subst hl; exact lv_bipush F1 F2 hd (of_bip h1 h2) w) kk
  | sipush n => exact s_cI (lo := -32768) (hi := 32767) hs (by decide) (by decide) (fun hl h1 h2 H locs cells slots la w => by subst hl; exact lv_sipush F1 F2 hd (of_sip h1 h2) w) kk
  | lconst n => exact s_cst (v := .inr (.inl (n.1 : Int))) hs (by show in64 _; unfold in64; omega) (fun hl H locs cells slots la w => by subst hl; exact lv_lconst F1 F2 hd rfl w) kk
  | ldc k => exact s_ldc F hd hs kk
  | ldc_w k => exact s_ldcw F hd hs kk
  | ldc2_w k => exact s_ldc2 F hd hs kk
  | getstatic k => exact s_gets F hd hs kk
  | iload_n k => exact s_ldI (i := k.1) hs (fun z hl H locs cells slots la hv w => by subst hl; exact lv_iload_n F1 F2 hd rfl hv w) kk
  | iload k => exact s_ldI (i := k) hs (fun z hl H locs cells slots la hv w => by subst hl; exact lv_iload F1 F2 hd hv w) kk
  | lload_n k => exact s_ldL (i := k.1) hs (fun z hl H locs cells slots la hv w => by subst hl; exact lv_lload_n F1 F2 hd rfl hv w) kk
  | lload k => exact s_ldL (i := k) hs (fun z hl H locs cells slots la hv w => by subst hl; exact lv_lload F1 F2 hd hv w) kk
  | aload_n k => exact s_ldA (i := k.1) hs (fun a hl H locs cells slots la hv w => by subst hl; exact ld_ref hav (fun h0 w => lv_aload_nN F1 F2 hd rfl h0 w) (fun q h0 w => lv_aload_n F1 F2 hd rfl h0 w) a hv w) kk
  | aload k => exact s_ldA (i := k) hs (fun a hl H locs cells slots la hv w => by subst hl; exact ld_ref hav (fun h0 w => lv_aloadN F1 F2 hd h0 w) (fun q h0 w => lv_aload F1 F2 hd h0 w) a hv w) kk
  | istore_n k => exact s_stI (i := k.1) hav hs (fun z t hl H locs cells slots la lv nL hv hn w => by subst hl; exact lv_istore_n F1 F2 hd rfl hv hn rfl w) kk
  | istore k => exact s_stI (i := k) hav hs (fun z t hl H locs cells slots la lv nL hv hn w => by subst hl; exact lv_istore F1 F2 hd hv hn rfl w) kk
  | lstore_n k => exact s_stL (i := k.1) hav hs (fun z t hl H locs cells slots la lv nL hv hn w => by subst hl; exact lv_lstore_n F1 F2 hd rfl hv hn rfl w) kk
  | lstore k => exact s_stL (i := k) hav hs (fun z t hl H locs cells slots la lv nL hv hn w => by subst hl; exact lv_lstore F1 F2 hd hv hn rfl w) kk
  | astore_n k =>
    refine s_stA (i := k.1) hav hs (fun a t hl H locs cells slots la lv nL hv hn => ?_) kk
    subst hl
    exact ref_cases hav (P := fun v => (∀ la' : Array Slot, lv_has la' nL ((k.1, v) :: lv.filter (fun q => !(q.1 == k.1) && !(q.1 + 1 == k.1 && q.2.category == 2))) → W p l e R s m args below meth c H locs cells slots Q (F0 m (pc + 1) la' (t.map (cv av)))) → W p l e R s m args below meth c H locs cells slots Q (F0 m pc la (v :: t.map (cv av)))) (fun w => lv_astore_nN F1 F2 hd rfl hv hn rfl w) (fun q w => lv_astore_n F1 F2 hd rfl hv hn rfl w) a
  | astore k =>
    refine s_stA (i := k) hav hs (fun a t hl H locs cells slots la lv nL hv hn => ?_) kk
    subst hl
    exact ref_cases hav (P := fun v => (∀ la' : Array Slot, lv_has la' nL ((k, v) :: lv.filter (fun q => !(q.1 == k) && !(q.1 + 1 == k && q.2.category == 2))) → W p l e R s m args below meth c H locs cells slots Q (F0 m (pc + 2) la' (t.map (cv av)))) → W p l e R s m args below meth c H locs cells slots Q (F0 m pc la (v :: t.map (cv av)))) (fun w => lv_astoreN F1 F2 hd hv hn rfl w) (fun q w => lv_astore F1 F2 hd hv hn rfl w) a
  | iinc k n =>
    refine s_inc (i := k) (n := n) hav hs (fun z hl H locs cells slots la lv nL k0 hv hk hn w => ?_) kk
    have e0 : Int32.ofInt z + Int32.ofInt n = Int32.ofInt (w32 (z + n)) := of32_add z n
    rcases hl with rfl | rfl
    · exact lv_iinc F1 F2 hd hv hk e0 hn rfl w
    · exact lv_iincW F1 F2 hd hv hk e0 hn rfl w
  | iadd => exact s_mbin (f := fun a b => w32 (a + b)) hs (fun _ _ _ _ => w32_in _) (fun a b t hl _ _ H locs cells slots la w => by subst hl; rw [← of32_add] at w; exact lv_iadd F1 F2 hd w) kk
  | isub => exact s_mbin (f := fun a b => w32 (a - b)) hs (fun _ _ _ _ => w32_in _) (fun a b t hl _ _ H locs cells slots la w => by subst hl; rw [← of32_sub] at w; exact lv_isub F1 F2 hd w) kk
  | imul => exact s_mbin (f := fun a b => w32 (a * b)) hs (fun _ _ _ _ => w32_in _) (fun a b t hl _ _ H locs cells slots la w => by subst hl; rw [← of32_mul] at w; exact lv_imul F1 F2 hd w) kk
  | idiv => exact s_mdiv (f := fun a b => w32 (a.tdiv b)) hs (fun _ _ _ _ => w32_in _) (fun a b t hl ha hb h0 H locs cells slots la w => by subst hl; rw [← of32_div ha hb] at w; exact lv_idiv F1 F2 hd (fun q => h0 ((of32_eq hb in32_0).mp q)) w) kk
  | irem => exact s_mdiv (f := fun a b => a.tmod b) hs (fun _ _ ha _ => tmod_in32 ha) (fun a b t hl ha hb h0 H locs cells slots la w => by subst hl; rw [← of32_rem ha hb] at w; exact lv_irem F1 F2 hd (fun q => h0 ((of32_eq hb in32_0).mp q)) w) kk
  | iand => exact s_mbin (f := iand) hs (fun _ _ _ _ => in32_toInt _) (fun a b t hl _ _ H locs cells slots la w => by subst hl; rw [iand, of32_toInt] at w; exact lv_iand F1 F2 hd w) kk
  | ior => exact s_mbin (f := ior) hs (fun _ _ _ _ => in32_toInt _) (fun a b t hl _ _ H locs cells slots la w => by subst hl; rw [ior, of32_toInt] at w; exact lv_ior F1 F2 hd w) kk
  | ixor => exact s_mbin (f := ixor) hs (fun _ _ _ _ => in32_toInt _) (fun a b t hl _ _ H locs cells slots la w => by subst hl; rw [ixor, of32_toInt] at w; exact lv_ixor F1 F2 hd w) kk
  | ishl => exact s_mbin (f := ishl) hs (fun _ _ _ _ => in32_toInt _) (fun a b t hl _ _ H locs cells slots la w => by subst hl; rw [ishl, of32_toInt] at w; exact lv_ishl F1 F2 hd w) kk
  | ishr => exact s_mbin (f := ishr) hs (fun _ _ _ _ => in32_toInt _) (fun a b t hl _ _ H locs cells slots la w => by subst hl; rw [ishr, of32_toInt] at w; exact lv_ishr F1 F2 hd w) kk
  | iushr => exact s_mbin (f := iushr) hs (fun _ _ _ _ => in32_toInt _) (fun a b t hl _ _ H locs cells slots la w => by subst hl; rw [iushr, of32_toInt] at w; exact lv_iushr F1 F2 hd rfl w) kk
  | ladd => exact s_mbinL (f := fun a b => w64 (a + b)) hs (fun _ _ _ _ => w64_in _) (fun a b t hl _ _ H locs cells slots la w => by subst hl; rw [← of64_add] at w; exact lv_ladd F1 F2 hd w) kk
  | lsub => exact s_mbinL (f := fun a b => w64 (a - b)) hs (fun _ _ _ _ => w64_in _) (fun a b t hl _ _ H locs cells slots la w => by subst hl; rw [← of64_sub] at w; exact lv_lsub F1 F2 hd w) kk
  | lmul => exact s_mbinL (f := fun a b => w64 (a * b)) hs (fun _ _ _ _ => w64_in _) (fun a b t hl _ _ H locs cells slots la w => by subst hl; rw [← of64_mul] at w; exact lv_lmul F1 F2 hd w) kk
  | ldiv => exact s_mdivL (f := fun a b => w64 (a.tdiv b)) hs (fun _ _ _ _ => w64_in _) (fun a b t hl ha hb h0 H locs cells slots la w => by subst hl; rw [← of64_div ha hb] at w; exact lv_ldiv F1 F2 hd (fun q => h0 ((of64_eq hb (in64_32 in32_0)).mp q)) w) kk
  | lrem => exact s_mdivL (f := fun a b => a.tmod b) hs (fun _ _ ha _ => tmod_in64 ha) (fun a b t hl ha hb h0 H locs cells slots la w => by subst hl; rw [← of64_rem ha hb] at w; exact lv_lrem F1 F2 hd (fun q => h0 ((of64_eq hb (in64_32 in32_0)).mp q)) w) kk
  | land => exact s_mbinL (f := land) hs (fun _ _ _ _ => in64_toInt _) (fun a b t hl _ _ H locs cells slots la w => by subst hl; rw [land, of64_toInt] at w; exact lv_land F1 F2 hd w) kk
  | lor => exact s_mbinL (f := lor) hs (fun _ _ _ _ => in64_toInt _) (fun a b t hl _ _ H locs cells slots la w => by subst hl; rw [lor, of64_toInt] at w; exact lv_lor F1 F2 hd w) kk
  | lshl => exact s_mbinLI (f := lshl) hs (fun _ _ _ _ => in64_toInt _) (fun a b t hl _ _ H locs cells slots la w => by subst hl; rw [lshl, of64_toInt] at w; exact lv_lshl F1 F2 hd rfl w) kk
  | lshr => exact s_mbinLI (f := lshr) hs (fun _ _ _ _ => in64_toInt _) (fun a b t hl _ _ H locs cells slots la w => by subst hl; rw [lshr, of64_toInt] at w; exact lv_lshr F1 F2 hd rfl w) kk
  | lushr => exact s_mbinLI (f := lushr) hs (fun _ _ _ _ => in64_toInt _) (fun a b t hl _ _ H locs cells slots la w => by subst hl; rw [lushr, of64_toInt] at w; exact lv_lushr F1 F2 hd rfl w) kk
  | lcmp =>
    simp only [stp] at hs
    split at hs
    · rename_i b a t
      split at hs
      · rename_i hl
        subst hl
        cases hs
        refine s_stack (pc' := pc + 1) (st' := .inl (lcm a b) :: t) (fun hv v hm => ?_) (fun hv H locs cells slots la w => ?_) kk
        · rcases List.mem_cons.mp hm with rfl | hm
          · show in32 (lcm a b)
            unfold lcm in32
            split
            · omega
            · split <;> omega
          · exact hv v (by simp [hm])
        · have ha : in64 a := hv (.inr (.inl a)) (by simp)
          have hb : in64 b := hv (.inr (.inl b)) (by simp)
          replace w : W p l e R s m args below meth c H locs cells slots Q (F0 m (pc + 1) la (.int (Int32.ofInt (lcm a b)) :: t.map (cv av))) := w
          rw [← cmp_lcm ha hb] at w
          exact W.lcmp F1 F2 hd w
      · cases hs
    · cases hs
  | i2l =>
    simp only [stp] at hs
    split at hs
    · rename_i a t
      split at hs
      · rename_i hl
        subst hl
        cases hs
        refine s_stack (pc' := pc + 1) (st' := .inr (.inl a) :: t) (fun hv v hm => ?_) (fun hv H locs cells slots la w => ?_) kk
        · rcases List.mem_cons.mp hm with rfl | hm
          · exact in64_32 (hv (.inl a) (by simp))
          · exact hv v (by simp [hm])
        · exact lv_i2l F1 F2 hd (of_i2l (hv (.inl a) (by simp))) w
      · cases hs
    · cases hs
  | l2i =>
    simp only [stp] at hs
    split at hs
    · rename_i a t
      split at hs
      · rename_i hl
        subst hl
        cases hs
        refine s_stack (pc' := pc + 1) (st' := .inl (w32 a) :: t) (fun hv v hm => ?_) (fun hv H locs cells slots la w => ?_) kk
        · rcases List.mem_cons.mp hm with rfl | hm
          · exact w32_in a
          · exact hv v (by simp [hm])
        · exact lv_l2i F1 F2 hd (of_l2i a) w
      · cases hs
    · cases hs
  | i2b => exact s_mun (f := w8) hs (fun _ _ => in32_toInt _) (fun a t hl _ H locs cells slots la w => by subst hl; exact lv_i2b F1 F2 hd (of32_toInt _).symm w) kk
  | i2s => exact s_mun (f := w16) hs (fun _ _ => in32_toInt _) (fun a t hl _ H locs cells slots la w => by subst hl; exact lv_i2s F1 F2 hd (of32_toInt _).symm w) kk
  | i2c => exact s_mun (f := wch) hs (fun _ _ => in32_toInt _) (fun a t hl _ H locs cells slots la w => by subst hl; exact lv_i2c F1 F2 hd (of32_toInt _).symm w) kk
  | dup => exact s_dup hav F1 F2 hd hs kk
  | dup2 => exact s_dup2 hav F1 F2 hd hs kk
  | pop => exact s_pop hav F1 F2 hd hs kk
  | pop2 => exact s_pop2 F1 F2 hd hs kk
  | goto off =>
    simp only [stp] at hs
    split at hs
    · rename_i hl
      obtain ⟨rfl, h0⟩ := hl
      cases hs
      exact s_stack (fun hv => hv) (fun _ H locs cells slots la w => lv_goto F1 F2 hd (tgt_eq h0) w) kk
    · cases hs
  | if_icmp cd off => exact s_icmp F1 F2 hd hs kk
  | ifCond cd off => exact s_ifc F1 F2 hd hs kk
  | ifnull off => exact s_nul hav F1 F2 true hd hs kk
  | ifnonnull off => exact s_nul hav F1 F2 false hd hs kk
  | if_acmp ac off => exact s_acmp hav F1 F2 hd hs kk
  | tableswitch df lo hi offs => exact s_tab F1 F2 hd hs kk
  | iaload => exact s_iald F hd hs kk
  | baload => exact s_bald F hd hs kk
  | laload => exact s_lald F hd hs kk
  | aaload => exact s_aald F hd hs kk
  | iastore => exact s_iast F hd hs kk
  | bastore => exact s_bast F hd hs kk
  | lastore => exact s_last F hd hs kk
  | aastore => exact s_aast F hd hs kk
  | arraylength => exact s_alen F hL hd hs kk
  | getfield k =>
    by_cases h14 : M.1 = 14
    · exact s_getS F h14 hd hs kk
    · simp only [stp] at hs
      split at hs
      · rename_i e0 hl
        exact s_get F hd (fld_ok hl h14) hs kk
      · cases hs
  | putfield k =>
    simp only [stp] at hs
    split at hs
    · rename_i e0 hl
      split at hs
      · cases hs
      · rename_i hf
        by_cases h14 : M.1 = 14
        · rw [h14] at hl
          have hm : (k, e0) ∈ tb14.1 := lk_mem hl
          simp only [tb14, List.mem_cons, List.not_mem_nil, or_false, Prod.mk.injEq] at hm
          have hput : e0.1 = 14 := by rcases hm with ⟨-, rfl⟩ | ⟨-, rfl⟩ <;> rfl
          rw [hput] at hs
          exact no_put14 hs
        · have hff := fld_ok hl h14
          rw [show e0.2.2.2.2 = false by simpa using hf] at hff
          exact s_put F hini hd hff hs kk
    · cases hs
  | new k =>
    simp only [stp] at hs
    split at hs
    · rename_i e0 hl
      exact s_new F hd (new_ok hl) hs hRc hRs kk
    · cases hs
  | newarray at' =>
    simp only [stp] at hs
    split at hs
    · cases hs
    · rename_i h99
      refine s_nwa F hd ?_ h99 hs hRc hRs kk
      cases at' with
      | byte => exact arrC_byte
      | int => exact arrC_int
      | long => exact arrC_long
      | boolean => exact arrC_boolean
      | _ => exact absurd rfl h99
  | anewarray k =>
    simp only [stp] at hs
    split at hs
    · rename_i e0 hl
      exact s_anwa F hd (anw_ok hl) hs hRc hRs kk
    · cases hs
  | invokestatic k =>
    simp only [stp] at hs
    split at hs
    · rename_i n M' hl
      exact s_cpy F hd hl hs kk
    · cases hs
  | invokespecial k =>
    simp only [stp] at hs
    split at hs
    · rename_i n M' hl
      exact s_obj F hd hl hs kk
    · cases hs
  | _ => simp [stp] at hs
end Sim7
