/-- the heap grows -/
def Gr (h : Hp) (x : Nx) : Prop := hN h ≤ hN x.2.2.2 ∧ hS h ≤ hS x.2.2.2
section Grow
variable {len pc : Nat} {ls : List (Option PV)} {st : List PV} {h : Hp} {x : Nx}
theorem gr_mbin {f : Int → Int → Int} (hs : mbin len pc ls st h f = some x) : Gr h x := by
  unfold mbin at hs; (repeat' split at hs) <;> first | (cases hs; exact ⟨Nat.le_refl _, Nat.le_refl _⟩) | cases hs
theorem gr_mbinL {f : Int → Int → Int} (hs : mbinL len pc ls st h f = some x) : Gr h x := by
  unfold mbinL at hs; (repeat' split at hs) <;> first | (cases hs; exact ⟨Nat.le_refl _, Nat.le_refl _⟩) | cases hs
theorem gr_mbinLI {f : Int → Int → Int} (hs : mbinLI len pc ls st h f = some x) : Gr h x := by
  unfold mbinLI at hs; (repeat' split at hs) <;> first | (cases hs; exact ⟨Nat.le_refl _, Nat.le_refl _⟩) | cases hs
theorem gr_mdiv {f : Int → Int → Int} (hs : mdiv len pc ls st h f = some x) : Gr h x := by
  unfold mdiv at hs; (repeat' split at hs) <;> first | (cases hs; exact ⟨Nat.le_refl _, Nat.le_refl _⟩) | cases hs
theorem gr_mdivL {f : Int → Int → Int} (hs : mdivL len pc ls st h f = some x) : Gr h x := by
  unfold mdivL at hs; (repeat' split at hs) <;> first | (cases hs; exact ⟨Nat.le_refl _, Nat.le_refl _⟩) | cases hs
theorem gr_mun {f : Int → Int} (hs : mun len pc ls st h f = some x) : Gr h x := by
  unfold mun at hs; (repeat' split at hs) <;> first | (cases hs; exact ⟨Nat.le_refl _, Nat.le_refl _⟩) | cases hs
theorem gr_mcst {k : Nat} {v : PV} (hs : mcst len k pc ls st h v = some x) : Gr h x := by
  unfold mcst at hs; (repeat' split at hs) <;> first | (cases hs; exact ⟨Nat.le_refl _, Nat.le_refl _⟩) | cases hs
theorem gr_mcI {k : Nat} {lo hi n : Int} (hs : mcI len k pc ls st h lo hi n = some x) : Gr h x := by
  unfold mcI at hs; (repeat' split at hs) <;> first | (cases hs; exact ⟨Nat.le_refl _, Nat.le_refl _⟩) | cases hs
theorem gr_ld {k i : Nat} : (mldI len k pc ls st h i = some x → Gr h x) ∧ (mldL len k pc ls st h i = some x → Gr h x) ∧ (mldA len k pc ls st h i = some x → Gr h x) := by
  refine ⟨fun hs => ?_, fun hs => ?_, fun hs => ?_⟩
  · unfold mldI at hs; (repeat' split at hs) <;> first | (cases hs; exact ⟨Nat.le_refl _, Nat.le_refl _⟩) | cases hs
  · unfold mldL at hs; (repeat' split at hs) <;> first | (cases hs; exact ⟨Nat.le_refl _, Nat.le_refl _⟩) | cases hs
  · unfold mldA at hs; (repeat' split at hs) <;> first | (cases hs; exact ⟨Nat.le_refl _, Nat.le_refl _⟩) | cases hs
theorem gr_st {k i : Nat} : (mstI len k pc ls st h i = some x → Gr h x) ∧ (mstL len k pc ls st h i = some x → Gr h x) ∧ (mstA len k pc ls st h i = some x → Gr h x) := by
  refine ⟨fun hs => ?_, fun hs => ?_, fun hs => ?_⟩
  · unfold mstI at hs; (repeat' split at hs) <;> first | (cases hs; exact ⟨Nat.le_refl _, Nat.le_refl _⟩) | cases hs
  · unfold mstL at hs; (repeat' split at hs) <;> first | (cases hs; exact ⟨Nat.le_refl _, Nat.le_refl _⟩) | cases hs
  · unfold mstA at hs; (repeat' split at hs) <;> first | (cases hs; exact ⟨Nat.le_refl _, Nat.le_refl _⟩) | cases hs
theorem gr_minc {i : Nat} {n : Int} (hs : minc len pc ls st h i n = some x) : Gr h x := by
  unfold minc at hs; (repeat' split at hs) <;> first | (cases hs; exact ⟨Nat.le_refl _, Nat.le_refl _⟩) | cases hs
theorem gr_mjmp {off : Int} {t : List PV} {b : Bool} (hs : mjmp len pc off ls t h b = some x) : Gr h x := by
  unfold mjmp at hs; (repeat' split at hs) <;> first | (cases hs; exact ⟨Nat.le_refl _, Nat.le_refl _⟩) | cases hs
theorem gr_micmp {c : Jvm.ClassFile.Cond} {off : Int} (hs : micmp len pc ls st h c off = some x) : Gr h x := by
  unfold micmp at hs; split at hs
  · exact gr_mjmp hs
  · cases hs
theorem gr_mif {c : Jvm.ClassFile.Cond} {off : Int} (hs : mif len pc ls st h c off = some x) : Gr h x := by
  unfold mif at hs; split at hs
  · exact gr_mjmp hs
  · cases hs
theorem gr_mnul {w : Bool} {off : Int} (hs : mnul len pc ls st h w off = some x) : Gr h x := by
  unfold mnul at hs; split at hs
  · split at hs
    · exact gr_mjmp hs
    · cases hs
  · cases hs
theorem gr_macmp {c : Jvm.ClassFile.ACond} {off : Int} (hs : macmp len pc ls st h c off = some x) : Gr h x := by
  unfold macmp at hs; split at hs
  · split at hs
    · exact gr_mjmp hs
    · cases hs
  · cases hs
theorem gr_mdup : (mdup len pc ls st h = some x → Gr h x) ∧ (mdup2 len pc ls st h = some x → Gr h x) ∧ (mpop len pc ls st h = some x → Gr h x) ∧ (mpop2 len pc ls st h = some x → Gr h x) := by
  refine ⟨fun hs => ?_, fun hs => ?_, fun hs => ?_, fun hs => ?_⟩
  · unfold mdup at hs; (repeat' split at hs) <;> first | (cases hs; exact ⟨Nat.le_refl _, Nat.le_refl _⟩) | cases hs
  · unfold mdup2 at hs; (repeat' split at hs) <;> first | (cases hs; exact ⟨Nat.le_refl _, Nat.le_refl _⟩) | cases hs
  · unfold mpop at hs; (repeat' split at hs) <;> first | (cases hs; exact ⟨Nat.le_refl _, Nat.le_refl _⟩) | cases hs
  · unfold mpop2 at hs; (repeat' split at hs) <;> first | (cases hs; exact ⟨Nat.le_refl _, Nat.le_refl _⟩) | cases hs
theorem gr_mtab {df lo hi : Int} {offs : Array Int} (hs : mtab len pc ls st h df lo hi offs = some x) : Gr h x := by
  unfold mtab at hs; (repeat' split at hs) <;> first | (cases hs; exact ⟨Nat.le_refl _, Nat.le_refl _⟩) | cases hs
theorem gr_mald {cs : List Nat} {w : Nat} (hs : mald len pc ls st h cs w = some x) : Gr h x := by
  unfold mald at hs
  split at hs
  · split at hs
    · cases hs; exact ⟨Nat.le_refl _, Nat.le_refl _⟩
    · cases hs
  · cases hs
theorem gr_mst : (miast len pc ls st h = some x → Gr h x) ∧ (mbast len pc ls st h = some x → Gr h x) ∧ (mlast len pc ls st h = some x → Gr h x) ∧ (maast len pc ls st h = some x → Gr h x) ∧ (mlen len pc ls st h = some x → Gr h x) := by
  refine ⟨fun hs => ?_, fun hs => ?_, fun hs => ?_, fun hs => ?_, fun hs => ?_⟩
  · unfold miast at hs; (repeat' split at hs) <;> first | (cases hs; exact ⟨Nat.le_refl _, Nat.le_refl _⟩) | cases hs
  · unfold mbast at hs; (repeat' split at hs) <;> first | (cases hs; exact ⟨Nat.le_refl _, Nat.le_refl _⟩) | cases hs
  · unfold mlast at hs; (repeat' split at hs) <;> first | (cases hs; exact ⟨Nat.le_refl _, Nat.le_refl _⟩) | cases hs
  · unfold maast at hs; (repeat' split at hs) <;> first | (cases hs; exact ⟨Nat.le_refl _, Nat.le_refl _⟩) | cases hs
  · unfold mlen at hs; (repeat' split at hs) <;> first | (cases hs; exact ⟨Nat.le_refl _, Nat.le_refl _⟩) | cases hs
theorem gr_mget {ci k w : Nat} (hs : mget len pc ls st h ci k w = some x) : Gr h x := by
  unfold mget at hs; (repeat' split at hs) <;> first | (cases hs; exact ⟨Nat.le_refl _, Nat.le_refl _⟩) | cases hs
theorem gr_mput {ci k w bl : Nat} (hs : mput len pc ls st h ci k w bl = some x) : Gr h x := by
  unfold mput at hs; (repeat' split at hs) <;> first | (cases hs; exact ⟨Nat.le_refl _, Nat.le_refl _⟩) | cases hs
theorem gr_mnew {ci n : Nat} (hs : mnew len pc ls st h ci n = some x) : Gr h x := by
  unfold mnew at hs; (repeat' split at hs) <;> first | (cases hs; exact ⟨Nat.le_add_right _ _, Nat.le_add_right _ _⟩) | cases hs
theorem gr_mnwa {k c : Nat} (hs : mnwa len k pc ls st h c = some x) : Gr h x := by
  unfold mnwa at hs; (repeat' split at hs) <;> first | (cases hs; exact ⟨Nat.le_add_right _ _, Nat.le_add_right _ _⟩) | cases hs
theorem gr_mcpy : (mcpy len pc ls st h = some x → Gr h x) ∧ (mobj len pc ls st h = some x → Gr h x) := by
  refine ⟨fun hs => ?_, fun hs => ?_⟩
  · unfold mcpy at hs; (repeat' split at hs) <;> first | (cases hs; exact ⟨Nat.le_refl _, Nat.le_refl _⟩) | cases hs
  · unfold mobj at hs; (repeat' split at hs) <;> first | (cases hs; exact ⟨Nat.le_refl _, Nat.le_refl _⟩) | cases hs
theorem stp_grow {tb : Tb} {i : Instr} (hs : stp tb i len pc ls st h = some x) : Gr h x := by
  cases i with
  | iconst n => exact gr_mcI hs
  | bipush n => exact gr_mcI hs
  | sipush n => exact gr_mcI hs
  | lconst n => exact gr_mcst hs
  | ldc k =>
    simp only [stp] at hs
    split at hs
    · exact gr_mcst hs
    · exact gr_mcst hs
    · cases hs
  | ldc_w k =>
    simp only [stp] at hs
    split at hs
    · exact gr_mcst hs
    · cases hs
  | ldc2_w k =>
    simp only [stp] at hs
    split at hs
    · exact gr_mcst hs
    · cases hs
  | getstatic k =>
    simp only [stp] at hs
    split at hs
    · exact gr_mcst hs
    · cases hs
  | iload_n k => exact gr_ld.1 hs
  | iload k => exact gr_ld.1 hs
  | lload_n k => exact gr_ld.2.1 hs
  | lload k => exact gr_ld.2.1 hs
  | aload_n k => exact gr_ld.2.2 hs
  | aload k => exact gr_ld.2.2 hs
  | istore_n k => exact gr_st.1 hs
  | istore k => exact gr_st.1 hs
  | lstore_n k => exact gr_st.2.1 hs
  | lstore k => exact gr_st.2.1 hs
  | astore_n k => exact gr_st.2.2 hs
  | astore k => exact gr_st.2.2 hs
  | iinc k n => exact gr_minc hs
  | iadd => exact gr_mbin hs
  | isub => exact gr_mbin hs
  | imul => exact gr_mbin hs
  | idiv => exact gr_mdiv hs
  | irem => exact gr_mdiv hs
  | iand => exact gr_mbin hs
  | ior => exact gr_mbin hs
  | ixor => exact gr_mbin hs
  | ishl => exact gr_mbin hs
  | ishr => exact gr_mbin hs
  | iushr => exact gr_mbin hs
  | ladd => exact gr_mbinL hs
  | lsub => exact gr_mbinL hs
  | lmul => exact gr_mbinL hs
  | ldiv => exact gr_mdivL hs
  | lrem => exact gr_mdivL hs
  | land => exact gr_mbinL hs
  | lor => exact gr_mbinL hs
  | lshl => exact gr_mbinLI hs
  | lshr => exact gr_mbinLI hs
  | lushr => exact gr_mbinLI hs
  | lcmp =>
    simp only [stp] at hs
    (repeat' split at hs) <;> first | (cases hs; exact ⟨Nat.le_refl _, Nat.le_refl _⟩) | cases hs
  | i2l =>
    simp only [stp] at hs
    (repeat' split at hs) <;> first | (cases hs; exact ⟨Nat.le_refl _, Nat.le_refl _⟩) | cases hs
  | l2i =>
    simp only [stp] at hs
    (repeat' split at hs) <;> first | (cases hs; exact ⟨Nat.le_refl _, Nat.le_refl _⟩) | cases hs
  | i2b => exact gr_mun hs
  | i2s => exact gr_mun hs
  | i2c => exact gr_mun hs
  | dup => exact gr_mdup.1 hs
  | dup2 => exact gr_mdup.2.1 hs
  | pop => exact gr_mdup.2.2.1 hs
  | pop2 => exact gr_mdup.2.2.2 hs
  | goto off =>
    simp only [stp] at hs
    (repeat' split at hs) <;> first | (cases hs; exact ⟨Nat.le_refl _, Nat.le_refl _⟩) | cases hs
  | if_icmp cd off => exact gr_micmp hs
  | ifCond cd off => exact gr_mif hs
  | ifnull off => exact gr_mnul hs
  | ifnonnull off => exact gr_mnul hs
  | if_acmp ac off => exact gr_macmp hs
  | tableswitch df lo hi offs => exact gr_mtab (len := len) hs
  | iaload => exact gr_mald hs
  | baload => exact gr_mald hs
  | laload => exact gr_mald hs
  | aaload => exact gr_mald hs
  | iastore => exact gr_mst.1 hs
  | bastore => exact gr_mst.2.1 hs
  | lastore => exact gr_mst.2.2.1 hs
  | aastore => exact gr_mst.2.2.2.1 hs
  | arraylength => exact gr_mst.2.2.2.2 hs
  | getfield k =>
    simp only [stp] at hs
    split at hs
    · exact gr_mget hs
    · cases hs
  | putfield k =>
    simp only [stp] at hs
    split at hs
    · split at hs
      · cases hs
      · exact gr_mput hs
    · cases hs
  | new k =>
    simp only [stp] at hs
    split at hs
    · exact gr_mnew hs
    · cases hs
  | newarray at' =>
    simp only [stp] at hs
    split at hs
    · cases hs
    · exact gr_mnwa hs
  | anewarray k =>
    simp only [stp] at hs
    split at hs
    · exact gr_mnwa hs
    · cases hs
  | invokestatic k =>
    simp only [stp] at hs
    split at hs
    · exact gr_mcpy.1 hs
    · cases hs
  | invokespecial k =>
    simp only [stp] at hs
    split at hs
    · exact gr_mcpy.2 hs
    · cases hs
  | _ => simp [stp] at hs
theorem ex_grow : ∀ (n d : Nat) (M : Me) (pc : Nat) (ls : List (Option PV)) (st : List PV) (h : Hp) (r : Option PV) (h' : Hp), ex n d M pc ls st h = some (r, h') → hN h ≤ hN h' ∧ hS h ≤ hS h' := by
  intro n
  induction n with
  | zero => intro d M pc ls st h r h' hx; simp [ex] at hx
  | succ n ih =>
    intro d M pc ls st h r h' hx
    unfold ex at hx
    split at hx
    · cases hx
    · split at hx
      · cases hx; exact ⟨Nat.le_refl _, Nat.le_refl _⟩
      · split at hx
        · split at hx
          · cases hx
          · split at hx
            · rename_i hc
              have h1 := ih _ _ _ _ _ _ _ _ hc
              have h2 := ih _ _ _ _ _ _ _ _ hx
              omega
            · cases hx
        · split at hx
          · rename_i hs
            have h1 := stp_grow hs
            have h2 := ih _ _ _ _ _ _ _ _ hx
            unfold Gr at h1
            dsimp only at h1
            omega
          · cases hx
end Grow
