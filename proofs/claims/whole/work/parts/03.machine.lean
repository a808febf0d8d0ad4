/-! THE PURE MACHINE: ints and longs as Int, references as Nat (0: null), the heap as planes over (address, slot) -/
abbrev PV : Type := Int ⊕ Int ⊕ Nat
abbrev Hp : Type := Nat × Nat × (Nat → Nat × Nat) × (Nat → Nat → Int) × (Nat → Nat → Int) × (Nat → Nat → Nat)
def hN (h : Hp) : Nat := h.1
def hS (h : Hp) : Nat := h.2.1
def hK (h : Hp) (a : Nat) : Nat × Nat := h.2.2.1 a
def hI (h : Hp) (a k : Nat) : Int := h.2.2.2.1 a k
def hJ (h : Hp) (a k : Nat) : Int := h.2.2.2.2.1 a k
def hR (h : Hp) (a k : Nat) : Nat := h.2.2.2.2.2 a k
def up2 {α : Type} (f : Nat → Nat → α) (a k : Nat) (v : α) : Nat → Nat → α := fun b j => if b = a ∧ j = k then v else f b j
def wI (h : Hp) (a k : Nat) (v : Int) : Hp := (h.1, h.2.1, h.2.2.1, up2 h.2.2.2.1 a k v, h.2.2.2.2.1, h.2.2.2.2.2)
def wJ (h : Hp) (a k : Nat) (v : Int) : Hp := (h.1, h.2.1, h.2.2.1, h.2.2.2.1, up2 h.2.2.2.2.1 a k v, h.2.2.2.2.2)
def wR (h : Hp) (a k : Nat) (v : Nat) : Hp := (h.1, h.2.1, h.2.2.1, h.2.2.2.1, h.2.2.2.2.1, up2 h.2.2.2.2.2 a k v)
/-- a new cell of kind (c, len) with sl slots -/
def nw (h : Hp) (c len sl : Nat) : Hp := (h.1 + 1, h.2.1 + sl, fun a => if a = 200 + h.1 then (c, len) else h.2.2.1 a, fun a k => if a = 200 + h.1 then 0 else h.2.2.2.1 a k, fun a k => if a = 200 + h.1 then 0 else h.2.2.2.2.1 a k, fun a k => if a = 200 + h.1 then 0 else h.2.2.2.2.2 a k)
/-- n ints of the row s from sp on come to the row d from dp on -/
def cpI (h : Hp) (s sp d dp n : Nat) : Hp := (h.1, h.2.1, h.2.2.1, fun b j => if b = d ∧ dp ≤ j ∧ j < dp + n then h.2.2.2.1 s (sp + (j - dp)) else h.2.2.2.1 b j, h.2.2.2.2.1, h.2.2.2.2.2)
theorem up2_at {α : Type} (f : Nat → Nat → α) (a k : Nat) (v : α) (b j : Nat) : up2 f a k v b j = if b = a ∧ j = k then v else f b j := rfl
theorem hN_wI (h a k v) : hN (wI h a k v) = hN h := rfl
theorem hN_wJ (h a k v) : hN (wJ h a k v) = hN h := rfl
theorem hN_wR (h a k v) : hN (wR h a k v) = hN h := rfl
theorem hS_wI (h a k v) : hS (wI h a k v) = hS h := rfl
theorem hS_wJ (h a k v) : hS (wJ h a k v) = hS h := rfl
theorem hS_wR (h a k v) : hS (wR h a k v) = hS h := rfl
theorem hK_wI (h a k v b) : hK (wI h a k v) b = hK h b := rfl
theorem hK_wJ (h a k v b) : hK (wJ h a k v) b = hK h b := rfl
theorem hK_wR (h a k v b) : hK (wR h a k v) b = hK h b := rfl
theorem hI_wI (h a k v b j) : hI (wI h a k v) b j = if b = a ∧ j = k then v else hI h b j := rfl
theorem hI_wJ (h a k v b j) : hI (wJ h a k v) b j = hI h b j := rfl
theorem hI_wR (h a k v b j) : hI (wR h a k v) b j = hI h b j := rfl
theorem hJ_wI (h a k v b j) : hJ (wI h a k v) b j = hJ h b j := rfl
theorem hJ_wJ (h a k v b j) : hJ (wJ h a k v) b j = if b = a ∧ j = k then v else hJ h b j := rfl
theorem hJ_wR (h a k v b j) : hJ (wR h a k v) b j = hJ h b j := rfl
theorem hR_wI (h a k v b j) : hR (wI h a k v) b j = hR h b j := rfl
theorem hR_wJ (h a k v b j) : hR (wJ h a k v) b j = hR h b j := rfl
theorem hR_wR (h a k v b j) : hR (wR h a k v) b j = if b = a ∧ j = k then v else hR h b j := rfl
theorem hN_nw (h c l s) : hN (nw h c l s) = hN h + 1 := rfl
theorem hS_nw (h c l s) : hS (nw h c l s) = hS h + s := rfl
theorem hK_nw (h c l s b) : hK (nw h c l s) b = if b = 200 + hN h then (c, l) else hK h b := rfl
theorem hI_nw (h c l s b j) : hI (nw h c l s) b j = if b = 200 + hN h then 0 else hI h b j := rfl
theorem hJ_nw (h c l s b j) : hJ (nw h c l s) b j = if b = 200 + hN h then 0 else hJ h b j := rfl
theorem hR_nw (h c l s b j) : hR (nw h c l s) b j = if b = 200 + hN h then 0 else hR h b j := rfl
theorem hN_cp (h s sp d dp n) : hN (cpI h s sp d dp n) = hN h := rfl
theorem hS_cp (h s sp d dp n) : hS (cpI h s sp d dp n) = hS h := rfl
theorem hK_cp (h s sp d dp n b) : hK (cpI h s sp d dp n) b = hK h b := rfl
theorem hI_cp (h s sp d dp n b j) : hI (cpI h s sp d dp n) b j = if b = d ∧ dp ≤ j ∧ j < dp + n then hI h s (sp + (j - dp)) else hI h b j := rfl
theorem hJ_cp (h s sp d dp n b j) : hJ (cpI h s sp d dp n) b j = hJ h b j := rfl
theorem hR_cp (h s sp d dp n b j) : hR (cpI h s sp d dp n) b j = hR h b j := rfl
def w32 (z : Int) : Int := (z + 2147483648) % 4294967296 - 2147483648
def w64 (z : Int) : Int := (z + 9223372036854775808) % 18446744073709551616 - 9223372036854775808
def iand (a b : Int) : Int := (Int32.ofInt a &&& Int32.ofInt b).toInt
def ior (a b : Int) : Int := (Int32.ofInt a ||| Int32.ofInt b).toInt
def ixor (a b : Int) : Int := (Int32.ofInt a ^^^ Int32.ofInt b).toInt
def ishl (a b : Int) : Int := (Int32.ofInt a <<< (Int32.ofInt b &&& 31)).toInt
def ishr (a b : Int) : Int := (Int32.ofInt a >>> (Int32.ofInt b &&& 31)).toInt
def iushr (a b : Int) : Int := ((Int32.ofInt a).toUInt32 >>> ((Int32.ofInt b).toUInt32 &&& Int32.toUInt32 31)).toInt32.toInt
def land (a b : Int) : Int := (Int64.ofInt a &&& Int64.ofInt b).toInt
def lor (a b : Int) : Int := (Int64.ofInt a ||| Int64.ofInt b).toInt
def lshl (a b : Int) : Int := (Int64.ofInt a <<< ((Int32.ofInt b).toInt64 &&& 63)).toInt
def lshr (a b : Int) : Int := (Int64.ofInt a >>> ((Int32.ofInt b).toInt64 &&& 63)).toInt
def lushr (a b : Int) : Int := ((Int64.ofInt a).toUInt64 >>> ((Int32.ofInt b).toInt64.toUInt64 &&& Int64.toUInt64 63)).toInt64.toInt
def w8 (a : Int) : Int := ((Int32.ofInt a).toInt8.toInt32).toInt
def w16 (a : Int) : Int := ((Int32.ofInt a).toInt16.toInt32).toInt
def wch (a : Int) : Int := (((Int32.ofInt a).toUInt32 % 65536).toInt32).toInt
def lcm (a b : Int) : Int := if a < b then -1 else if a = b then 0 else 1
/-- a method: its own class's number, its name, its code, its locals, what it answers -/
abbrev Me : Type := Nat × MethodName × ByteArray × Nat × Option FieldType
/-- where a step leads: pc, locals, stack, heap -/
abbrev Nx : Type := Nat × List (Option PV) × List PV × Hp
def mbin (len pc : Nat) (ls : List (Option PV)) (st : List PV) (h : Hp) (f : Int → Int → Int) : Option Nx := match st with
  | .inl b :: .inl a :: t => if len = 1 then some (pc + 1, ls, .inl (f a b) :: t, h) else none
  | _ => none
def mbinL (len pc : Nat) (ls : List (Option PV)) (st : List PV) (h : Hp) (f : Int → Int → Int) : Option Nx := match st with
  | .inr (.inl b) :: .inr (.inl a) :: t => if len = 1 then some (pc + 1, ls, .inr (.inl (f a b)) :: t, h) else none
  | _ => none
def mbinLI (len pc : Nat) (ls : List (Option PV)) (st : List PV) (h : Hp) (f : Int → Int → Int) : Option Nx := match st with
  | .inl b :: .inr (.inl a) :: t => if len = 1 then some (pc + 1, ls, .inr (.inl (f a b)) :: t, h) else none
  | _ => none
def mdiv (len pc : Nat) (ls : List (Option PV)) (st : List PV) (h : Hp) (f : Int → Int → Int) : Option Nx := match st with
  | .inl b :: .inl a :: t => if len = 1 ∧ b ≠ 0 then some (pc + 1, ls, .inl (f a b) :: t, h) else none
  | _ => none
def mdivL (len pc : Nat) (ls : List (Option PV)) (st : List PV) (h : Hp) (f : Int → Int → Int) : Option Nx := match st with
  | .inr (.inl b) :: .inr (.inl a) :: t => if len = 1 ∧ b ≠ 0 then some (pc + 1, ls, .inr (.inl (f a b)) :: t, h) else none
  | _ => none
def mun (len pc : Nat) (ls : List (Option PV)) (st : List PV) (h : Hp) (f : Int → Int) : Option Nx := match st with
  | .inl a :: t => if len = 1 then some (pc + 1, ls, .inl (f a) :: t, h) else none
  | _ => none
def mcst (len k pc : Nat) (ls : List (Option PV)) (st : List PV) (h : Hp) (v : PV) : Option Nx := if len = k then some (pc + k, ls, v :: st, h) else none
def mldI (len k pc : Nat) (ls : List (Option PV)) (st : List PV) (h : Hp) (i : Nat) : Option Nx := match ls[i]? with
  | some (some (.inl z)) => if len = k then some (pc + k, ls, .inl z :: st, h) else none
  | _ => none
def mldL (len k pc : Nat) (ls : List (Option PV)) (st : List PV) (h : Hp) (i : Nat) : Option Nx := match ls[i]? with
  | some (some (.inr (.inl z))) => if len = k ∧ ls[i + 1]? = some none then some (pc + k, ls, .inr (.inl z) :: st, h) else none
  | _ => none
def mldA (len k pc : Nat) (ls : List (Option PV)) (st : List PV) (h : Hp) (i : Nat) : Option Nx := match ls[i]? with
  | some (some (.inr (.inr a))) => if len = k then some (pc + k, ls, .inr (.inr a) :: st, h) else none
  | _ => none
def mstI (len k pc : Nat) (ls : List (Option PV)) (st : List PV) (h : Hp) (i : Nat) : Option Nx := match st with
  | .inl z :: t => if len = k ∧ i < ls.length then some (pc + k, ls.set i (some (.inl z)), t, h) else none
  | _ => none
def mstL (len k pc : Nat) (ls : List (Option PV)) (st : List PV) (h : Hp) (i : Nat) : Option Nx := match st with
  | .inr (.inl z) :: t => if len = k ∧ i + 1 < ls.length then some (pc + k, (ls.set i (some (.inr (.inl z)))).set (i + 1) none, t, h) else none
  | _ => none
def mstA (len k pc : Nat) (ls : List (Option PV)) (st : List PV) (h : Hp) (i : Nat) : Option Nx := match st with
  | .inr (.inr a) :: t => if len = k ∧ i < ls.length then some (pc + k, ls.set i (some (.inr (.inr a))), t, h) else none
  | _ => none
def minc (len pc : Nat) (ls : List (Option PV)) (st : List PV) (h : Hp) (i : Nat) (n : Int) : Option Nx := match ls[i]? with
  | some (some (.inl z)) => if len = 3 ∨ len = 6 then some (pc + len, ls.set i (some (.inl (w32 (z + n)))), st, h) else none
  | _ => none
def tgt (pc : Nat) (off : Int) : Nat := ((pc : Int) + off).toNat
def mcond (c : Jvm.ClassFile.Cond) (a b : Int) : Prop := match c with
  | .eq => a = b
  | .ne => a ≠ b
  | .lt => a < b
  | .ge => b ≤ a
  | .gt => b < a
  | .le => a ≤ b
def mcondB (c : Jvm.ClassFile.Cond) (a b : Int) : Bool := match c with
  | .eq => decide (a = b)
  | .ne => decide (a ≠ b)
  | .lt => decide (a < b)
  | .ge => decide (b ≤ a)
  | .gt => decide (b < a)
  | .le => decide (a ≤ b)
def mjmp (len pc : Nat) (off : Int) (ls : List (Option PV)) (t : List PV) (h : Hp) (c : Bool) : Option Nx := if len = 3 ∧ 0 ≤ (pc : Int) + off then some (if c then tgt pc off else pc + 3, ls, t, h) else none
def micmp (len pc : Nat) (ls : List (Option PV)) (st : List PV) (h : Hp) (c : Jvm.ClassFile.Cond) (off : Int) : Option Nx := match st with
  | .inl b :: .inl a :: t => mjmp len pc off ls t h (mcondB c a b)
  | _ => none
def mif (len pc : Nat) (ls : List (Option PV)) (st : List PV) (h : Hp) (c : Jvm.ClassFile.Cond) (off : Int) : Option Nx := match st with
  | .inl a :: t => mjmp len pc off ls t h (mcondB c a 0)
  | _ => none
def mnul (len pc : Nat) (ls : List (Option PV)) (st : List PV) (h : Hp) (w : Bool) (off : Int) : Option Nx := match st with
  | .inr (.inr a) :: t => if a = 0 ∨ 200 ≤ a then mjmp len pc off ls t h (decide (a = 0) == w) else none
  | _ => none
def macmp (len pc : Nat) (ls : List (Option PV)) (st : List PV) (h : Hp) (c : Jvm.ClassFile.ACond) (off : Int) : Option Nx := match st with
  | .inr (.inr b) :: .inr (.inr a) :: t => if 200 ≤ a ∧ 200 ≤ b then mjmp len pc off ls t h (match c with | .eq => decide (a = b) | .ne => decide (a ≠ b)) else none
  | _ => none
def mdup (len pc : Nat) (ls : List (Option PV)) (st : List PV) (h : Hp) : Option Nx := match st with
  | .inl a :: t => if len = 1 then some (pc + 1, ls, .inl a :: .inl a :: t, h) else none
  | .inr (.inr a) :: t => if len = 1 then some (pc + 1, ls, .inr (.inr a) :: .inr (.inr a) :: t, h) else none
  | _ => none
def mdup2 (len pc : Nat) (ls : List (Option PV)) (st : List PV) (h : Hp) : Option Nx := match st with
  | .inl b :: .inr (.inr a) :: t => if len = 1 then some (pc + 1, ls, .inl b :: .inr (.inr a) :: .inl b :: .inr (.inr a) :: t, h) else none
  | .inl b :: .inl a :: t => if len = 1 then some (pc + 1, ls, .inl b :: .inl a :: .inl b :: .inl a :: t, h) else none
  | .inr (.inl a) :: t => if len = 1 then some (pc + 1, ls, .inr (.inl a) :: .inr (.inl a) :: t, h) else none
  | _ => none
def mpop (len pc : Nat) (ls : List (Option PV)) (st : List PV) (h : Hp) : Option Nx := match st with
  | .inl _ :: t => if len = 1 then some (pc + 1, ls, t, h) else none
  | .inr (.inr _) :: t => if len = 1 then some (pc + 1, ls, t, h) else none
  | _ => none
def mpop2 (len pc : Nat) (ls : List (Option PV)) (st : List PV) (h : Hp) : Option Nx := match st with
  | .inr (.inl _) :: t => if len = 1 then some (pc + 1, ls, t, h) else none
  | _ => none
def mtab (len pc : Nat) (ls : List (Option PV)) (st : List PV) (h : Hp) (df lo hi : Int) (offs : Array Int) : Option Nx := match st with
  | .inl x :: t => if x < lo ∨ hi < x then (if 0 ≤ (pc : Int) + df then some (tgt pc df, ls, t, h) else none) else match offs[(x - lo).toNat]? with
    | some off => if 0 ≤ (pc : Int) + off then some (tgt pc off, ls, t, h) else none
    | none => none
  | _ => none
/-- a row of kind c holds place z -/
def inRow (h : Hp) (a c : Nat) (z : Int) : Prop := (hK h a).1 = c ∧ 0 ≤ z ∧ z < (hK h a).2
def mald (len pc : Nat) (ls : List (Option PV)) (st : List PV) (h : Hp) (cs : List Nat) (w : Nat) : Option Nx := match st with
  | .inl z :: .inr (.inr a) :: t => if len = 1 ∧ (hK h a).1 ∈ cs ∧ 0 ≤ z ∧ z < (hK h a).2 then some (pc + 1, ls, (if w = 0 then .inl (hI h a z.toNat) else if w = 1 then .inr (.inl (hJ h a z.toNat)) else .inr (.inr (hR h a z.toNat))) :: t, h) else none
  | _ => none
def mcI (len k pc : Nat) (ls : List (Option PV)) (st : List PV) (h : Hp) (lo hi n : Int) : Option Nx := if len = k ∧ lo ≤ n ∧ n ≤ hi then some (pc + k, ls, .inl n :: st, h) else none
def mvl (h : Hp) (w a k : Nat) : PV := if w = 0 then .inl (hI h a k) else if w = 1 then .inr (.inl (hJ h a k)) else .inr (.inr (hR h a k))
def mget (len pc : Nat) (ls : List (Option PV)) (st : List PV) (h : Hp) (ci k w : Nat) : Option Nx := match st with
  | .inr (.inr a) :: t => if len = 3 ∧ (hK h a).1 = ci then some (pc + 3, ls, mvl h w a k :: t, h) else none
  | _ => none
def mput (len pc : Nat) (ls : List (Option PV)) (st : List PV) (h : Hp) (ci k w bl : Nat) : Option Nx := match st with
  | .inl v :: .inr (.inr a) :: t => if len = 3 ∧ w = 0 ∧ (hK h a).1 = ci ∧ 200 ≤ a ∧ (bl = 0 ∨ v = 0 ∨ v = 1) then some (pc + 3, ls, t, wI h a k v) else none
  | .inr (.inl v) :: .inr (.inr a) :: t => if len = 3 ∧ w = 1 ∧ (hK h a).1 = ci ∧ 200 ≤ a then some (pc + 3, ls, t, wJ h a k v) else none
  | .inr (.inr v) :: .inr (.inr a) :: t => if len = 3 ∧ w = 2 ∧ (hK h a).1 = ci ∧ 200 ≤ a then some (pc + 3, ls, t, wR h a k v) else none
  | _ => none
def miast (len pc : Nat) (ls : List (Option PV)) (st : List PV) (h : Hp) : Option Nx := match st with
  | .inl v :: .inl z :: .inr (.inr a) :: t => if len = 1 ∧ 200 ≤ a ∧ (hK h a).1 = 21 ∧ 0 ≤ z ∧ z < (hK h a).2 then some (pc + 1, ls, t, wI h a z.toNat v) else none
  | _ => none
def mbast (len pc : Nat) (ls : List (Option PV)) (st : List PV) (h : Hp) : Option Nx := match st with
  | .inl v :: .inl z :: .inr (.inr a) :: t => if len = 1 ∧ 200 ≤ a ∧ (hK h a).1 = 20 ∧ 0 ≤ z ∧ z < (hK h a).2 then some (pc + 1, ls, t, wI h a z.toNat (w8 v)) else if len = 1 ∧ 200 ≤ a ∧ (hK h a).1 = 23 ∧ 0 ≤ z ∧ z < (hK h a).2 ∧ (v = 0 ∨ v = 1) then some (pc + 1, ls, t, wI h a z.toNat v) else none
  | _ => none
def mlast (len pc : Nat) (ls : List (Option PV)) (st : List PV) (h : Hp) : Option Nx := match st with
  | .inr (.inl v) :: .inl z :: .inr (.inr a) :: t => if len = 1 ∧ 200 ≤ a ∧ (hK h a).1 = 22 ∧ 0 ≤ z ∧ z < (hK h a).2 then some (pc + 1, ls, t, wJ h a z.toNat v) else none
  | _ => none
/-- the class of what a row of references holds -/
def elC (c : Nat) : Nat := if c = 24 then 2 else if c = 25 then 8 else if c = 26 then 10 else 99
def maast (len pc : Nat) (ls : List (Option PV)) (st : List PV) (h : Hp) : Option Nx := match st with
  | .inr (.inr v) :: .inl z :: .inr (.inr a) :: t => if len = 1 ∧ 200 ≤ a ∧ 200 ≤ v ∧ ((hK h a).1 = 24 ∨ (hK h a).1 = 25 ∨ (hK h a).1 = 26) ∧ (hK h v).1 = elC (hK h a).1 ∧ 0 ≤ z ∧ z < (hK h a).2 then some (pc + 1, ls, t, wR h a z.toNat v) else none
  | _ => none
def mlen (len pc : Nat) (ls : List (Option PV)) (st : List PV) (h : Hp) : Option Nx := match st with
  | .inr (.inr a) :: t => if len = 1 ∧ 20 ≤ (hK h a).1 ∧ (hK h a).1 ≤ 26 then some (pc + 1, ls, .inl (hK h a).2 :: t, h) else none
  | _ => none
def mnew (len pc : Nat) (ls : List (Option PV)) (st : List PV) (h : Hp) (ci n : Nat) : Option Nx := if len = 3 then some (pc + 3, ls, .inr (.inr (200 + hN h)) :: st, nw h ci 0 n) else none
def mnwa (len k pc : Nat) (ls : List (Option PV)) (st : List PV) (h : Hp) (c : Nat) : Option Nx := match st with
  | .inl z :: t => if len = k ∧ 0 ≤ z ∧ z ≤ 100000 then some (pc + k, ls, .inr (.inr (200 + hN h)) :: t, nw h c z.toNat z.toNat) else none
  | _ => none
/-- what may lie below a call's arguments -/
def okr (l : List PV) : Bool := decide (l.length ≤ 4) || (decide (l.length ≤ 8) && l.all (fun v => match v with
  | .inr (.inl _) => false
  | _ => true))
def mcpy (len pc : Nat) (ls : List (Option PV)) (st : List PV) (h : Hp) : Option Nx := match st with
  | .inl n :: .inl dp :: .inr (.inr d) :: .inl sp :: .inr (.inr s) :: t => if len = 3 ∧ 200 ≤ s ∧ 200 ≤ d ∧ (hK h s).1 = 21 ∧ (hK h d).1 = 21 ∧ 0 ≤ n ∧ 0 ≤ sp ∧ 0 ≤ dp ∧ sp + n ≤ (hK h s).2 ∧ dp + n ≤ (hK h d).2 ∧ okr t = true then some (pc + 3, ls, t, cpI h s sp.toNat d dp.toNat n.toNat) else none
  | _ => none
def mobj (len pc : Nat) (ls : List (Option PV)) (st : List PV) (h : Hp) : Option Nx := match st with
  | .inr (.inr a) :: t => if len = 3 ∧ 200 ≤ a ∧ okr t = true then some (pc + 3, ls, t, h) else none
  | _ => none
/-- what newarray makes -/
def nwaC (t : Jvm.ClassFile.ArrayType) : Nat := match t with
  | .byte => 20
  | .int => 21
  | .long => 22
  | .boolean => 23
  | _ => 99
/-- the rows of a class's constants: fields (index, class, slot, width, boolean, final), calls (index, kind, how many, whom), constants, classes (index, class, slots), rows of references (index, kind), statics -/
abbrev Tb : Type := List (Nat × Nat × Nat × Nat × Nat × Bool) × List (Nat × Nat × Nat × Me) × List (Nat × PV) × List (Nat × Nat × Nat) × List (Nat × Nat) × List (Nat × PV)
def lk {α : Type} (l : List (Nat × α)) (i : Nat) : Option α := match l with
  | [] => none
  | e :: t => if e.1 = i then some e.2 else lk t i
def stp (tb : Tb) (i : Instr) (len pc : Nat) (ls : List (Option PV)) (st : List PV) (h : Hp) : Option Nx := match i with
  | .iconst n => mcI len 1 pc ls st h (-1) 5 n
  | .bipush n => mcI len 2 pc ls st h (-128) 127 n
  | .sipush n => mcI len 3 pc ls st h (-32768) 32767 n
  | .lconst n => mcst len 1 pc ls st h (.inr (.inl (n.1 : Int)))
  | .ldc k => match lk tb.2.2.1 k with
    | some (.inl z) => mcst len 2 pc ls st h (.inl z)
    | some (.inr (.inr a)) => mcst len 2 pc ls st h (.inr (.inr a))
    | _ => none
  | .ldc_w k => match lk tb.2.2.1 k with
    | some (.inl z) => mcst len 3 pc ls st h (.inl z)
    | _ => none
  | .ldc2_w k => match lk tb.2.2.1 k with
    | some (.inr (.inl z)) => mcst len 3 pc ls st h (.inr (.inl z))
    | _ => none
  | .iload_n k => mldI len 1 pc ls st h k.1
  | .iload k => mldI len 2 pc ls st h k
  | .lload_n k => mldL len 1 pc ls st h k.1
  | .lload k => mldL len 2 pc ls st h k
  | .aload_n k => mldA len 1 pc ls st h k.1
  | .aload k => mldA len 2 pc ls st h k
  | .istore_n k => mstI len 1 pc ls st h k.1
  | .istore k => mstI len 2 pc ls st h k
  | .lstore_n k => mstL len 1 pc ls st h k.1
  | .lstore k => mstL len 2 pc ls st h k
  | .astore_n k => mstA len 1 pc ls st h k.1
  | .astore k => mstA len 2 pc ls st h k
  | .iinc k n => minc len pc ls st h k n
  | .iadd => mbin len pc ls st h (fun a b => w32 (a + b))
  | .isub => mbin len pc ls st h (fun a b => w32 (a - b))
  | .imul => mbin len pc ls st h (fun a b => w32 (a * b))
  | .idiv => mdiv len pc ls st h (fun a b => w32 (a.tdiv b))
  | .irem => mdiv len pc ls st h (fun a b => a.tmod b)
  | .iand => mbin len pc ls st h iand
  | .ior => mbin len pc ls st h ior
  | .ixor => mbin len pc ls st h ixor
  | .ishl => mbin len pc ls st h ishl
  | .ishr => mbin len pc ls st h ishr
  | .iushr => mbin len pc ls st h iushr
  | .ladd => mbinL len pc ls st h (fun a b => w64 (a + b))
  | .lsub => mbinL len pc ls st h (fun a b => w64 (a - b))
  | .lmul => mbinL len pc ls st h (fun a b => w64 (a * b))
  | .ldiv => mdivL len pc ls st h (fun a b => w64 (a.tdiv b))
  | .lrem => mdivL len pc ls st h (fun a b => a.tmod b)
  | .land => mbinL len pc ls st h land
  | .lor => mbinL len pc ls st h lor
  | .lshl => mbinLI len pc ls st h lshl
  | .lshr => mbinLI len pc ls st h lshr
  | .lushr => mbinLI len pc ls st h lushr
  | .lcmp => match st with
    | .inr (.inl b) :: .inr (.inl a) :: t => if len = 1 then some (pc + 1, ls, .inl (lcm a b) :: t, h) else none
    | _ => none
  | .i2l => match st with
    | .inl a :: t => if len = 1 then some (pc + 1, ls, .inr (.inl a) :: t, h) else none
    | _ => none
  | .l2i => match st with
    | .inr (.inl a) :: t => if len = 1 then some (pc + 1, ls, .inl (w32 a) :: t, h) else none
    | _ => none
  | .i2b => mun len pc ls st h w8
  | .i2s => mun len pc ls st h w16
  | .i2c => mun len pc ls st h wch
  | .dup => mdup len pc ls st h
  | .dup2 => mdup2 len pc ls st h
  | .pop => mpop len pc ls st h
  | .pop2 => mpop2 len pc ls st h
  | .goto off => if len = 3 ∧ 0 ≤ (pc : Int) + off then some (tgt pc off, ls, st, h) else none
  | .if_icmp c off => micmp len pc ls st h c off
  | .ifCond c off => mif len pc ls st h c off
  | .ifnull off => mnul len pc ls st h true off
  | .ifnonnull off => mnul len pc ls st h false off
  | .if_acmp c off => macmp len pc ls st h c off
  | .tableswitch df lo hi offs => mtab len pc ls st h df lo hi offs
  | .iaload => mald len pc ls st h [21] 0
  | .baload => mald len pc ls st h [20, 23] 0
  | .laload => mald len pc ls st h [22] 1
  | .aaload => mald len pc ls st h [24, 25, 26] 2
  | .iastore => miast len pc ls st h
  | .bastore => mbast len pc ls st h
  | .lastore => mlast len pc ls st h
  | .aastore => maast len pc ls st h
  | .arraylength => mlen len pc ls st h
  | .getfield k => match lk tb.1 k with
    | some e => mget len pc ls st h e.1 e.2.1 e.2.2.1
    | none => none
  | .putfield k => match lk tb.1 k with
    | some e => if e.2.2.2.2 = true then none else mput len pc ls st h e.1 e.2.1 e.2.2.1 e.2.2.2.1
    | none => none
  | .getstatic k => match lk tb.2.2.2.2.2 k with
    | some v => mcst len 3 pc ls st h v
    | none => none
  | .new k => match lk tb.2.2.2.1 k with
    | some e => mnew len pc ls st h e.1 e.2
    | none => none
  | .newarray t => if nwaC t = 99 then none else mnwa len 2 pc ls st h (nwaC t)
  | .anewarray k => match lk tb.2.2.2.2.1 k with
    | some c => mnwa len 3 pc ls st h c
    | none => none
  | .invokestatic k => match lk tb.2.1 k with
    | some (9, _, _) => mcpy len pc ls st h
    | _ => none
  | .invokespecial k => match lk tb.2.1 k with
    | some (8, _, _) => mobj len pc ls st h
    | _ => none
  | _ => none
/-- an int that a method of this answer may return -/
def rok (r : Option FieldType) (z : Int) : Prop := match r with
  | some .int => True
  | some .boolean => z = 0 ∨ z = 1
  | some .byte => -128 ≤ z ∧ z ≤ 127
  | some .char => 0 ≤ z ∧ z ≤ 65535
  | _ => False
def rokB (r : Option FieldType) (z : Int) : Bool := match r with
  | some .int => true
  | some .boolean => decide (z = 0 ∨ z = 1)
  | some .byte => decide (-128 ≤ z ∧ z ≤ 127)
  | some .char => decide (0 ≤ z ∧ z ≤ 65535)
  | _ => false
def isRf (r : Option FieldType) : Bool := match r with
  | some (.object _) => true
  | some (.array _) => true
  | _ => false
/-- what a method answers, where it returns -/
def rtn (rt : Option FieldType) (i : Instr) (len : Nat) (st : List PV) : Option (Option PV) := match i with
  | .ireturn => match st with
    | [.inl z] => if len = 1 ∧ rokB rt z = true then some (some (.inl z)) else none
    | _ => none
  | .lreturn => match st with
    | [.inr (.inl z)] => if len = 1 ∧ rt = some .long then some (some (.inr (.inl z))) else none
    | _ => none
  | .areturn => match st with
    | [.inr (.inr a)] => if len = 1 ∧ isRf rt = true then some (some (.inr (.inr a))) else none
    | _ => none
  | .return_ => match st with
    | [] => if len = 1 ∧ rt = none then some none else none
    | _ => none
  | _ => none
def exl (l : List PV) : List (Option PV) := match l with
  | [] => []
  | .inr (.inl z) :: t => some (.inr (.inl z)) :: none :: exl t
  | .inl z :: t => some (.inl z) :: exl t
  | .inr (.inr a) :: t => some (.inr (.inr a)) :: exl t
/-- a call: whom, with what (the last argument first), what stays below -/
def cll (tb : Tb) (i : Instr) (len : Nat) (st : List PV) (h : Hp) : Option (Me × List PV × List PV) := match i with
  | .invokevirtual k => match lk tb.2.1 k with
    | some (kd, n, M) => match st.drop (n - 1) with
      | .inr (.inr a) :: _ => if len = 3 ∧ kd ≤ 1 ∧ 1 ≤ n ∧ (hK h a).1 = M.1 ∧ okr (st.drop n) = true ∧ (exl (st.take n).reverse).length ≤ M.2.2.2.1 then some (M, st.take n, st.drop n) else none
      | _ => none
    | none => none
  | .invokespecial k => match lk tb.2.1 k with
    | some (kd, n, M) => match st.drop (n - 1) with
      | .inr (.inr a) :: _ => if len = 3 ∧ (kd = 2 ∨ kd = 3) ∧ 1 ≤ n ∧ 200 ≤ a ∧ okr (st.drop n) = true ∧ (exl (st.take n).reverse).length ≤ M.2.2.2.1 then some (M, st.take n, st.drop n) else none
      | _ => none
    | none => none
  | .invokestatic k => match lk tb.2.1 k with
    | some (kd, n, M) => if len = 3 ∧ (kd = 4 ∨ kd = 5) ∧ n ≤ st.length ∧ okr (st.drop n) = true ∧ (exl (st.take n).reverse).length ≤ M.2.2.2.1 then some (M, st.take n, st.drop n) else none
    | none => none
  | _ => none
/-- the locals with which a method begins; its arguments come last first -/
def ent (n : Nat) (as : List PV) : List (Option PV) := exl as.reverse ++ List.replicate (n - (exl as.reverse).length) none
def psh (r : Option PV) (st : List PV) : List PV := match r with
  | some v => v :: st
  | none => st
theorem psh_some (v : PV) (st : List PV) : psh (some v) st = v :: st := rfl
theorem psh_none (st : List PV) : psh none st = st := rfl
