theorem sr0 : Cond.stringRef (cn 6) 244 ";:+-*()[]=<>" ∈ lw_tbl := List.mem_append_right _ (List.mem_append_right _ (List.mem_append_left _ (List.mem_of_getElem? (i := 127) rfl)))
theorem sr1 : Cond.stringRef (cn 6) 45 "pool" ∈ lw_tbl := List.mem_append_right _ (List.mem_append_right _ (List.mem_append_left _ (List.mem_of_getElem? (i := 214) rfl)))
theorem sr2 : Cond.stringRef (cn 6) 64 "thing" ∈ lw_tbl := List.mem_append_right _ (List.mem_append_right _ (List.mem_append_right _ (List.mem_append_left _ (List.mem_of_getElem? (i := 20) rfl))))
theorem sr3 : Cond.stringRef (cn 6) 108 "at" ∈ lw_tbl := List.mem_append_right _ (List.mem_append_right _ (List.mem_append_right _ (List.mem_append_left _ (List.mem_of_getElem? (i := 25) rfl))))
theorem sr4 : Cond.stringRef (cn 6) 117 "guard" ∈ lw_tbl := List.mem_append_right _ (List.mem_append_right _ (List.mem_append_right _ (List.mem_append_left _ (List.mem_of_getElem? (i := 30) rfl))))
theorem sr5 : Cond.stringRef (cn 6) 121 "needs" ∈ lw_tbl := List.mem_append_right _ (List.mem_append_right _ (List.mem_append_right _ (List.mem_append_left _ (List.mem_of_getElem? (i := 31) rfl))))
theorem sr6 : Cond.stringRef (cn 6) 125 "there" ∈ lw_tbl := List.mem_append_right _ (List.mem_append_right _ (List.mem_append_right _ (List.mem_append_left _ (List.mem_of_getElem? (i := 32) rfl))))
theorem sr7 : Cond.stringRef (cn 6) 73 "goer" ∈ lw_tbl := List.mem_append_right _ (List.mem_append_right _ (List.mem_append_right _ (List.mem_append_left _ (List.mem_of_getElem? (i := 33) rfl))))
theorem sr8 : Cond.stringRef (cn 6) 132 "breath" ∈ lw_tbl := List.mem_append_right _ (List.mem_append_right _ (List.mem_append_right _ (List.mem_append_left _ (List.mem_of_getElem? (i := 38) rfl))))
theorem sr9 : Cond.stringRef (cn 6) 142 "bold" ∈ lw_tbl := List.mem_append_right _ (List.mem_append_right _ (List.mem_append_right _ (List.mem_append_left _ (List.mem_of_getElem? (i := 43) rfl))))
theorem sr10 : Cond.stringRef (cn 6) 146 "odds" ∈ lw_tbl := List.mem_append_right _ (List.mem_append_right _ (List.mem_append_right _ (List.mem_append_left _ (List.mem_of_getElem? (i := 44) rfl))))
theorem sr11 : Cond.stringRef (cn 6) 78 "reaches" ∈ lw_tbl := List.mem_append_right _ (List.mem_append_right _ (List.mem_append_right _ (List.mem_append_left _ (List.mem_of_getElem? (i := 45) rfl))))
theorem sr12 : Cond.stringRef (cn 6) 211 "who" ∈ lw_tbl := List.mem_append_right _ (List.mem_append_right _ (List.mem_append_right _ (List.mem_append_left _ (List.mem_of_getElem? (i := 66) rfl))))
theorem sr13 : Cond.stringRef (cn 6) 213 "board" ∈ lw_tbl := List.mem_append_right _ (List.mem_append_right _ (List.mem_append_right _ (List.mem_append_left _ (List.mem_of_getElem? (i := 67) rfl))))
theorem sr14 : Cond.stringRef (cn 6) 214 "things" ∈ lw_tbl := List.mem_append_right _ (List.mem_append_right _ (List.mem_append_right _ (List.mem_append_left _ (List.mem_of_getElem? (i := 68) rfl))))
theorem sr15 : Cond.stringRef (cn 6) 215 "reach" ∈ lw_tbl := List.mem_append_right _ (List.mem_append_right _ (List.mem_append_right _ (List.mem_append_left _ (List.mem_of_getElem? (i := 69) rfl))))
theorem sr16 : Cond.stringRef (cn 6) 183 "if" ∈ lw_tbl := List.mem_append_right _ (List.mem_append_right _ (List.mem_append_right _ (List.mem_append_left _ (List.mem_of_getElem? (i := 78) rfl))))
theorem sr17 : Cond.stringRef (cn 6) 206 "not" ∈ lw_tbl := List.mem_append_right _ (List.mem_append_right _ (List.mem_append_right _ (List.mem_append_left _ (List.mem_of_getElem? (i := 95) rfl))))
theorem sr18 : Cond.stringRef (cn 6) 204 "and" ∈ lw_tbl := List.mem_append_right _ (List.mem_append_right _ (List.mem_append_right _ (List.mem_append_left _ (List.mem_of_getElem? (i := 100) rfl))))
theorem sr19 : Cond.stringRef (cn 6) 199 "or" ∈ lw_tbl := List.mem_append_right _ (List.mem_append_right _ (List.mem_append_right _ (List.mem_append_left _ (List.mem_of_getElem? (i := 101) rfl))))
theorem sr20 : Cond.stringRef (cn 6) 191 "then" ∈ lw_tbl := List.mem_append_right _ (List.mem_append_right _ (List.mem_append_right _ (List.mem_append_left _ (List.mem_of_getElem? (i := 102) rfl))))
theorem sr21 : Cond.stringRef (cn 6) 193 "else" ∈ lw_tbl := List.mem_append_right _ (List.mem_append_right _ (List.mem_append_right _ (List.mem_append_left _ (List.mem_of_getElem? (i := 103) rfl))))
theorem sr22 : Cond.stringRef (cn 6) 195 "end" ∈ lw_tbl := List.mem_append_right _ (List.mem_append_right _ (List.mem_append_right _ (List.mem_append_left _ (List.mem_of_getElem? (i := 104) rfl))))
theorem sr23 : Cond.stringRef (cn 6) 90 "tells" ∈ lw_tbl := List.mem_append_right _ (List.mem_append_right _ (List.mem_append_right _ (List.mem_append_left _ (List.mem_of_getElem? (i := 119) rfl))))
theorem sr24 : Cond.stringRef (cn 12) 88 " pool thing at guard needs there goer breath bold odds reaches tells if then else end who board things reach and or not " ∈ lw_tbl := List.mem_append_right _ (List.mem_append_right _ (List.mem_append_right _ (List.mem_append_right _ (List.mem_append_right _ (List.mem_append_right _ (List.mem_append_left _ (List.mem_of_getElem? (i := 217) rfl)))))))
theorem sr25 : Cond.stringRef (cn 12) 126 ";:+-*()[]=<>" ∈ lw_tbl := List.mem_append_right _ (List.mem_append_right _ (List.mem_append_right _ (List.mem_append_right _ (List.mem_append_right _ (List.mem_append_right _ (List.mem_append_left _ (List.mem_of_getElem? (i := 223) rfl)))))))
/-- the term of a text constant -/
def tmS (i : Nat) : Term := match strT[i]? with
  | some e => .string (cn e.1) e.2.1
  | none => .arg 0
theorem str_w : ∀ e ∈ strT, Cond.stringRef (cn e.1) e.2.1 e.2.2.1 ∈ lw_tbl := List.forall_mem_cons.mpr ⟨sr0, List.forall_mem_cons.mpr ⟨sr1, List.forall_mem_cons.mpr ⟨sr2, List.forall_mem_cons.mpr ⟨sr3, List.forall_mem_cons.mpr ⟨sr4, List.forall_mem_cons.mpr ⟨sr5, List.forall_mem_cons.mpr ⟨sr6, List.forall_mem_cons.mpr ⟨sr7, List.forall_mem_cons.mpr ⟨sr8, List.forall_mem_cons.mpr ⟨sr9, List.forall_mem_cons.mpr ⟨sr10, List.forall_mem_cons.mpr ⟨sr11, List.forall_mem_cons.mpr ⟨sr12, List.forall_mem_cons.mpr ⟨sr13, List.forall_mem_cons.mpr ⟨sr14, List.forall_mem_cons.mpr ⟨sr15, List.forall_mem_cons.mpr ⟨sr16, List.forall_mem_cons.mpr ⟨sr17, List.forall_mem_cons.mpr ⟨sr18, List.forall_mem_cons.mpr ⟨sr19, List.forall_mem_cons.mpr ⟨sr20, List.forall_mem_cons.mpr ⟨sr21, List.forall_mem_cons.mpr ⟨sr22, List.forall_mem_cons.mpr ⟨sr23, List.forall_mem_cons.mpr ⟨sr24, List.forall_mem_cons.mpr ⟨sr25, List.forall_mem_cons.mpr ⟨sr0, List.forall_mem_cons.mpr ⟨sr1, List.forall_mem_cons.mpr ⟨sr2, List.forall_mem_cons.mpr ⟨sr3, List.forall_mem_cons.mpr ⟨sr4, List.forall_mem_cons.mpr ⟨sr5, List.forall_mem_cons.mpr ⟨sr6, List.forall_mem_cons.mpr ⟨sr7, List.forall_mem_cons.mpr ⟨sr8, List.forall_mem_cons.mpr ⟨sr9, List.forall_mem_cons.mpr ⟨sr10, List.forall_mem_cons.mpr ⟨sr11, List.forall_mem_cons.mpr ⟨sr12, List.forall_mem_cons.mpr ⟨sr13, List.forall_mem_cons.mpr ⟨sr14, List.forall_mem_cons.mpr ⟨sr15, List.forall_mem_cons.mpr ⟨sr16, List.forall_mem_cons.mpr ⟨sr17, List.forall_mem_cons.mpr ⟨sr18, List.forall_mem_cons.mpr ⟨sr19, List.forall_mem_cons.mpr ⟨sr20, List.forall_mem_cons.mpr ⟨sr21, List.forall_mem_cons.mpr ⟨sr22, List.forall_mem_cons.mpr ⟨sr23, List.forall_mem_cons.mpr ⟨sr24, List.forall_mem_cons.mpr ⟨sr25, fun _ h => absurd h List.not_mem_nil⟩⟩⟩⟩⟩⟩⟩⟩⟩⟩⟩⟩⟩⟩⟩⟩⟩⟩⟩⟩⟩⟩⟩⟩⟩⟩⟩⟩⟩⟩⟩⟩⟩⟩⟩⟩⟩⟩⟩⟩⟩⟩⟩⟩⟩⟩⟩⟩⟩⟩⟩⟩
theorem str_t : ∀ e ∈ strT, tmS e.2.2.2 = .string (cn e.1) e.2.1 ∧ e.2.2.2 < 26 := List.forall_mem_cons.mpr ⟨⟨rfl, by decide⟩, List.forall_mem_cons.mpr ⟨⟨rfl, by decide⟩, List.forall_mem_cons.mpr ⟨⟨rfl, by decide⟩, List.forall_mem_cons.mpr ⟨⟨rfl, by decide⟩, List.forall_mem_cons.mpr ⟨⟨rfl, by decide⟩, List.forall_mem_cons.mpr ⟨⟨rfl, by decide⟩, List.forall_mem_cons.mpr ⟨⟨rfl, by decide⟩, List.forall_mem_cons.mpr ⟨⟨rfl, by decide⟩, List.forall_mem_cons.mpr ⟨⟨rfl, by decide⟩, List.forall_mem_cons.mpr ⟨⟨rfl, by decide⟩, List.forall_mem_cons.mpr ⟨⟨rfl, by decide⟩, List.forall_mem_cons.mpr ⟨⟨rfl, by decide⟩, List.forall_mem_cons.mpr ⟨⟨rfl, by decide⟩, List.forall_mem_cons.mpr ⟨⟨rfl, by decide⟩, List.forall_mem_cons.mpr ⟨⟨rfl, by decide⟩, List.forall_mem_cons.mpr ⟨⟨rfl, by decide⟩, List.forall_mem_cons.mpr ⟨⟨rfl, by decide⟩, List.forall_mem_cons.mpr ⟨⟨rfl, by decide⟩, List.forall_mem_cons.mpr ⟨⟨rfl, by decide⟩, List.forall_mem_cons.mpr ⟨⟨rfl, by decide⟩, List.forall_mem_cons.mpr ⟨⟨rfl, by decide⟩, List.forall_mem_cons.mpr ⟨⟨rfl, by decide⟩, List.forall_mem_cons.mpr ⟨⟨rfl, by decide⟩, List.forall_mem_cons.mpr ⟨⟨rfl, by decide⟩, List.forall_mem_cons.mpr ⟨⟨rfl, by decide⟩, List.forall_mem_cons.mpr ⟨⟨rfl, by decide⟩, List.forall_mem_cons.mpr ⟨⟨rfl, by decide⟩, List.forall_mem_cons.mpr ⟨⟨rfl, by decide⟩, List.forall_mem_cons.mpr ⟨⟨rfl, by decide⟩, List.forall_mem_cons.mpr ⟨⟨rfl, by decide⟩, List.forall_mem_cons.mpr ⟨⟨rfl, by decide⟩, List.forall_mem_cons.mpr ⟨⟨rfl, by decide⟩, List.forall_mem_cons.mpr ⟨⟨rfl, by decide⟩, List.forall_mem_cons.mpr ⟨⟨rfl, by decide⟩, List.forall_mem_cons.mpr ⟨⟨rfl, by decide⟩, List.forall_mem_cons.mpr ⟨⟨rfl, by decide⟩, List.forall_mem_cons.mpr ⟨⟨rfl, by decide⟩, List.forall_mem_cons.mpr ⟨⟨rfl, by decide⟩, List.forall_mem_cons.mpr ⟨⟨rfl, by decide⟩, List.forall_mem_cons.mpr ⟨⟨rfl, by decide⟩, List.forall_mem_cons.mpr ⟨⟨rfl, by decide⟩, List.forall_mem_cons.mpr ⟨⟨rfl, by decide⟩, List.forall_mem_cons.mpr ⟨⟨rfl, by decide⟩, List.forall_mem_cons.mpr ⟨⟨rfl, by decide⟩, List.forall_mem_cons.mpr ⟨⟨rfl, by decide⟩, List.forall_mem_cons.mpr ⟨⟨rfl, by decide⟩, List.forall_mem_cons.mpr ⟨⟨rfl, by decide⟩, List.forall_mem_cons.mpr ⟨⟨rfl, by decide⟩, List.forall_mem_cons.mpr ⟨⟨rfl, by decide⟩, List.forall_mem_cons.mpr ⟨⟨rfl, by decide⟩, List.forall_mem_cons.mpr ⟨⟨rfl, by decide⟩, List.forall_mem_cons.mpr ⟨⟨rfl, by decide⟩, fun _ h => absurd h List.not_mem_nil⟩⟩⟩⟩⟩⟩⟩⟩⟩⟩⟩⟩⟩⟩⟩⟩⟩⟩⟩⟩⟩⟩⟩⟩⟩⟩⟩⟩⟩⟩⟩⟩⟩⟩⟩⟩⟩⟩⟩⟩⟩⟩⟩⟩⟩⟩⟩⟩⟩⟩⟩⟩
theorem ls_nolaw : (Jvm.Cond.laysStatic "DepthBoard" "NO_LAW" "[I") ∈ lw_tbl := List.mem_append_right _ (List.mem_append_left _ (List.mem_of_getElem? (i := 45) rfl))
theorem ls_comp : (Jvm.Cond.laysStatic "java/lang/String" "COMPACT_STRINGS" "Z") ∈ lw_tbl := List.mem_append_right _ (List.mem_append_right _ (List.mem_append_left _ (List.mem_of_getElem? (i := 141) rfl)))
theorem ls_sio : (Jvm.Cond.laysStatic "jdk/internal/util/Preconditions" "SIOOBE_FORMATTER" "Ljava/util/function/BiFunction;") ∈ lw_tbl := List.mem_append_right _ (List.mem_append_right _ (List.mem_append_left _ (List.mem_of_getElem? (i := 184) rfl)))
theorem in_db : (Jvm.Cond.initialized "DepthBoard") ∈ lw_tbl := List.mem_append_right _ (List.mem_append_left _ (List.mem_of_getElem? (i := 1) rfl))
theorem in_str : (Jvm.Cond.initialized "java/lang/String") ∈ lw_tbl := List.mem_append_right _ (List.mem_append_left _ (List.mem_of_getElem? (i := 10) rfl))
theorem in_pre : (Jvm.Cond.initialized "jdk/internal/util/Preconditions") ∈ lw_tbl := List.mem_append_right _ (List.mem_append_left _ (List.mem_of_getElem? (i := 14) rfl))
theorem ao2 : Cond.arrayOver (.object RX2) ∈ lw_tbl := List.mem_append_right _ (List.mem_append_right _ (List.mem_append_left _ (List.mem_of_getElem? (i := 30) rfl)))
theorem ao8 : Cond.arrayOver (.object RX8) ∈ lw_tbl := List.mem_append_right _ (List.mem_append_left _ (List.mem_of_getElem? (i := 228) rfl))
theorem ao10 : Cond.arrayOver (.object RX10) ∈ lw_tbl := List.mem_append_right _ (List.mem_append_right _ (List.mem_append_left _ (List.mem_of_getElem? (i := 4) rfl)))
theorem nw_w : ∀ w ∈ NW, w ∈ lw_tbl ∧ w.onTables = true := List.forall_mem_cons.mpr ⟨⟨List.mem_append_right _ (List.mem_append_left _ (List.mem_of_getElem? (i := 34) rfl)), rfl⟩, List.forall_mem_cons.mpr ⟨⟨List.mem_append_right _ (List.mem_append_left _ (List.mem_of_getElem? (i := 40) rfl)), rfl⟩, List.forall_mem_cons.mpr ⟨⟨List.mem_append_right _ (List.mem_append_left _ (List.mem_of_getElem? (i := 44) rfl)), rfl⟩, List.forall_mem_cons.mpr ⟨⟨List.mem_append_right _ (List.mem_append_left _ (List.mem_of_getElem? (i := 164) rfl)), rfl⟩, List.forall_mem_cons.mpr ⟨⟨List.mem_append_right _ (List.mem_append_left _ (List.mem_of_getElem? (i := 194) rfl)), rfl⟩, List.forall_mem_cons.mpr ⟨⟨List.mem_append_right _ (List.mem_append_left _ (List.mem_of_getElem? (i := 229) rfl)), rfl⟩, List.forall_mem_cons.mpr ⟨⟨List.mem_append_right _ (List.mem_append_right _ (List.mem_append_left _ (List.mem_of_getElem? (i := 2) rfl))), rfl⟩, List.forall_mem_cons.mpr ⟨⟨List.mem_append_right _ (List.mem_append_right _ (List.mem_append_left _ (List.mem_of_getElem? (i := 6) rfl))), rfl⟩, List.forall_mem_cons.mpr ⟨⟨List.mem_append_right _ (List.mem_append_right _ (List.mem_append_left _ (List.mem_of_getElem? (i := 32) rfl))), rfl⟩, List.forall_mem_cons.mpr ⟨⟨List.mem_append_right _ (List.mem_append_right _ (List.mem_append_left _ (List.mem_of_getElem? (i := 37) rfl))), rfl⟩, List.forall_mem_cons.mpr ⟨⟨List.mem_append_right _ (List.mem_append_right _ (List.mem_append_left _ (List.mem_of_getElem? (i := 39) rfl))), rfl⟩, List.forall_mem_cons.mpr ⟨⟨List.mem_append_right _ (List.mem_append_right _ (List.mem_append_right _ (List.mem_append_left _ (List.mem_of_getElem? (i := 182) rfl)))), rfl⟩, List.forall_mem_cons.mpr ⟨⟨List.mem_append_right _ (List.mem_append_right _ (List.mem_append_right _ (List.mem_append_right _ (List.mem_append_left _ (List.mem_of_getElem? (i := 74) rfl))))), rfl⟩, List.forall_mem_cons.mpr ⟨⟨List.mem_append_right _ (List.mem_append_right _ (List.mem_append_right _ (List.mem_append_right _ (List.mem_append_left _ (List.mem_of_getElem? (i := 139) rfl))))), rfl⟩, List.forall_mem_cons.mpr ⟨⟨List.mem_append_right _ (List.mem_append_right _ (List.mem_append_right _ (List.mem_append_right _ (List.mem_append_left _ (List.mem_of_getElem? (i := 146) rfl))))), rfl⟩, List.forall_mem_cons.mpr ⟨⟨List.mem_append_right _ (List.mem_append_right _ (List.mem_append_right _ (List.mem_append_right _ (List.mem_append_left _ (List.mem_of_getElem? (i := 151) rfl))))), rfl⟩, List.forall_mem_cons.mpr ⟨⟨List.mem_append_right _ (List.mem_append_right _ (List.mem_append_right _ (List.mem_append_right _ (List.mem_append_left _ (List.mem_of_getElem? (i := 154) rfl))))), rfl⟩, List.forall_mem_cons.mpr ⟨⟨List.mem_append_right _ (List.mem_append_right _ (List.mem_append_right _ (List.mem_append_right _ (List.mem_append_right _ (List.mem_append_left _ (List.mem_of_getElem? (i := 27) rfl)))))), rfl⟩, List.forall_mem_cons.mpr ⟨⟨List.mem_append_right _ (List.mem_append_right _ (List.mem_append_right _ (List.mem_append_right _ (List.mem_append_right _ (List.mem_append_left _ (List.mem_of_getElem? (i := 58) rfl)))))), rfl⟩, List.forall_mem_cons.mpr ⟨⟨List.mem_append_right _ (List.mem_append_right _ (List.mem_append_right _ (List.mem_append_right _ (List.mem_append_right _ (List.mem_append_left _ (List.mem_of_getElem? (i := 208) rfl)))))), rfl⟩, fun _ h => absurd h List.not_mem_nil⟩⟩⟩⟩⟩⟩⟩⟩⟩⟩⟩⟩⟩⟩⟩⟩⟩⟩⟩⟩
theorem inst0 : Cond.instantiable RX0 6 ∈ TG := (tg1 (List.mem_of_getElem? (i := 163) rfl) rfl)
theorem inst1 : Cond.instantiable RX1 9 ∈ TG := (tg5 (List.mem_of_getElem? (i := 171) rfl) rfl)
theorem inst2 : Cond.instantiable RX2 3 ∈ TG := (tg2 (List.mem_of_getElem? (i := 31) rfl) rfl)
theorem inst3 : Cond.instantiable RX3 2 ∈ TG := (tg5 (List.mem_of_getElem? (i := 57) rfl) rfl)
theorem inst4 : Cond.instantiable RX4 3 ∈ TG := (tg1 (List.mem_of_getElem? (i := 222) rfl) rfl)
theorem inst5 : Cond.instantiable RX5 13 ∈ TG := (tg1 (List.mem_of_getElem? (i := 39) rfl) rfl)
theorem inst6 : Cond.instantiable RX6 13 ∈ TG := (tg1 (List.mem_of_getElem? (i := 33) rfl) rfl)
theorem inst7 : Cond.instantiable RX7 13 ∈ TG := (tg4 (List.mem_of_getElem? (i := 68) rfl) rfl)
theorem inst8 : Cond.instantiable RX8 4 ∈ TG := (tg1 (List.mem_of_getElem? (i := 193) rfl) rfl)
theorem inst9 : Cond.instantiable RX9 7 ∈ TG := (tg4 (List.mem_of_getElem? (i := 205) rfl) rfl)
theorem inst10 : Cond.instantiable RX10 4 ∈ TG := (tg2 (List.mem_of_getElem? (i := 5) rfl) rfl)
theorem inst11 : Cond.instantiable RX11 11 ∈ TG := (tg1 (List.mem_of_getElem? (i := 25) rfl) rfl)
theorem inst12 : Cond.instantiable RX12 38 ∈ TG := (tg6 (List.mem_of_getElem? (i := 65) rfl) rfl)
def sVal (i : Nat) : Term := .field (tmS i) "java/lang/String" "value" "[B"
/-- what the Statement gives of a text constant -/
def sconds (i : Nat) : List Cond := [.exactly (tmS i) "java/lang/String", .eq (.field (tmS i) "java/lang/String" "coder" "B") (.int 0), .arrayOf (sVal i) .byte, .eq (.length (sVal i)) (.int (Int32.ofNat (slen.getD i 0)))] ++ (List.range (slen.getD i 0)).map fun j => .eq (.elem (sVal i) (.int (Int32.ofNat j))) (.int ((sbyt.getD i []).getD j 0))
set_option maxRecDepth 100000 in
theorem sc_all : ((flatC (Jvm.Cond.and given_1 narrow_1)).drop 51).take 344 = (List.range 26).flatMap sconds := by decide +kernel
theorem sc_mem {i : Nat} (hi : i < 26) {w : Cond} (hw : w ∈ sconds i) : w ∈ flatC (Jvm.Cond.and given_1 narrow_1) := by
  have h1 : w ∈ (List.range 26).flatMap sconds := List.mem_flatMap.mpr ⟨i, List.mem_range.mpr hi, hw⟩
  rw [← sc_all] at h1
  exact List.mem_of_mem_drop (List.mem_of_mem_take h1)
theorem slen_lt (i : Nat) (hi : i < 26) : slen.getD i 0 < 2 ^ 31 := by
  have h : ∀ i, i < 26 → slen.getD i 0 < 2 ^ 31 := by decide +kernel
  exact h i hi
theorem str_known {args : Array Value} {s : State} (hs : ∀ w ∈ flatC (Jvm.Cond.and given_1 narrow_1), w.before args s = true) : ∃ adK adV : Nat → Nat, sS adK adV (fun q => s.heap.size ≤ q) s s.heap ∧ ∀ i, i < 26 → (tmS i).eval args s none [] s = some (.ref (adK i)) := by
  have hA : ∀ a : Nat, a < s.heap.size → ¬ (fun q => s.heap.size ≤ q) a := fun a h => Nat.not_le.mpr h
  have h0 : ∀ i : Nat, ∃ q : Nat × Nat, i < 26 → (tmS i).eval args s none [] s = some (.ref q.1) ∧ va_O "java/lang/String" q.1 (fun q => s.heap.size ≤ q) s s.heap ∧ va_OF "java/lang/String" "coder" "B" (.int 0) q.1 (fun q => s.heap.size ≤ q) s s.heap ∧ va_OF "java/lang/String" "value" "[B" (.ref q.2) q.1 (fun q => s.heap.size ≤ q) s s.heap ∧ va_T .byte q.2 (slen.getD i 0) (fun j => .int ((sbyt.getD i []).getD j 0)) (fun q => s.heap.size ≤ q) s s.heap := by
    intro i
    by_cases hi : i < 26
    · obtain ⟨aK, aV, hv, he⟩ := vk_Sof (N := 1) (tm := fun _ => tmS i) (len := [slen.getD i 0]) (byt := [sbyt.getD i []]) (A := fun q => s.heap.size ≤ q) (args := args) (s := s)
        (fun k hk => by obtain rfl : k = 0 := by omega
                        exact slen_lt i hi)
        (fun k hk => hs _ (sc_mem hi (by simp [sconds])))
        (fun k hk => hs _ (sc_mem hi (by simp [sconds])))
        (fun k hk => hs _ (sc_mem hi (by simp [sconds, sVal])))
        (fun k hk => by obtain rfl : k = 0 := by omega
                        exact hs _ (sc_mem hi (by simp [sconds, sVal])))
        (fun k hk j hj => by
          obtain rfl : k = 0 := by omega
          refine hs _ (sc_mem hi ?_)
          refine List.mem_append_right _ (List.mem_map.mpr ⟨j, List.mem_range.mpr hj, rfl⟩))
        (fun a b ha hb hab => absurd (show a = b by omega) hab) hA
      exact ⟨(aK 0, aV 0), fun _ => ⟨he 0 (by omega), hv.1 0 (by omega)⟩⟩
    · exact ⟨(0, 0), fun h => absurd h hi⟩
  obtain ⟨ad, had⟩ := Classical.axiomOfChoice h0
  exact ⟨fun i => (ad i).1, fun i => (ad i).2, fun i hi => (had i hi).2, fun i hi => (had i hi).1⟩
theorem arr_known {s : State} {args : Array Value} {ty : FieldType} (hp : ∀ C, ty ≠ .object C) (hw : (Cond.arrayClass ty).before args s = true) : ∃ cA : ClassId, ArrOfT s cA ty ∧ va_RA s cA ty := by
  obtain ⟨cA, kA, comp, h1, h2, h3⟩ := Cond.arrayClass_spec hw
  refine ⟨cA, fun n z => ⟨fun k h => (by cases h), kA, h2, comp, h3⟩, ?_⟩
  cases ty with
  | object C => exact absurd rfl (hp C)
  | _ => exact h1
theorem arr_over {s : State} {C : String} (hw : va_AO C s) : ∃ cA : ClassId, ArrOfT s cA (.object C) ∧ va_RA s cA (.object C) := by
  obtain ⟨comp, cA, kA, h1, -, h2, h3, h4⟩ := Cond.arrayOver_spec hw
  exact ⟨cA, fun n z => ⟨fun k h => (by cases h), kA, h2, comp, h3⟩, ⟨kA, comp, h2, h3, h1, h4⟩⟩

theorem cls_known {s : State} {args : Array Value} (hts : ∀ w ∈ TG, w.before args s = true) : ∃ (dC : Nat → ClassId) (dI : Nat → Nat → Nat), ∀ (k : Nat) (q : vw_C), vwCl[k]? = some q → u_Kn s q.1 q.2.1 q.2.2 (dC k) (dI k) := by
  obtain ⟨c0, i0, k0⟩ := u_known (C := RX0) (T := TX0) (N := 6) (n := 6) hts inw0 (hts _ inst0)
  obtain ⟨c1, i1, k1⟩ := u_known (C := RX1) (T := TX1) (N := 9) (n := 9) hts inw1 (hts _ inst1)
  obtain ⟨c2, i2, k2⟩ := u_known (C := RX2) (T := TX2) (N := 3) (n := 3) hts inw2 (hts _ inst2)
  obtain ⟨c3, i3, k3⟩ := u_known (C := RX3) (T := TX3) (N := 2) (n := 2) hts inw3 (hts _ inst3)
  obtain ⟨c4, i4, k4⟩ := u_known (C := RX4) (T := TX4) (N := 3) (n := 3) hts inw4 (hts _ inst4)
  obtain ⟨c5, i5, k5⟩ := u_known (C := RX5) (T := TX5) (N := 13) (n := 13) hts inw5 (hts _ inst5)
  obtain ⟨c6, i6, k6⟩ := u_known (C := RX6) (T := TX6) (N := 13) (n := 13) hts inw6 (hts _ inst6)
  obtain ⟨c7, i7, k7⟩ := u_known (C := RX7) (T := TX7) (N := 13) (n := 13) hts inw7 (hts _ inst7)
  obtain ⟨c8, i8, k8⟩ := u_known (C := RX8) (T := TX8) (N := 4) (n := 4) hts inw8 (hts _ inst8)
  obtain ⟨c9, i9, k9⟩ := u_known (C := RX9) (T := TX9) (N := 7) (n := 7) hts inw9 (hts _ inst9)
  obtain ⟨c10, i10, k10⟩ := u_known (C := RX10) (T := TX10) (N := 4) (n := 4) hts inw10 (hts _ inst10)
  obtain ⟨c11, i11, k11⟩ := u_known (C := RX11) (T := TX11) (N := 11) (n := 11) hts inw11 (hts _ inst11)
  obtain ⟨c12, i12, k12⟩ := u_known (C := RX12) (T := TX12) (N := 38) (n := 38) hts inw12 (hts _ inst12)
  refine ⟨fun k => [c0, c1, c2, c3, c4, c5, c6, c7, c8, c9, c10, c11, c12].getD k c0, fun k => [i0, i1, i2, i3, i4, i5, i6, i7, i8, i9, i10, i11, i12].getD k i0, ?_⟩
  intro k q hq
  match k, hq with
  | 0, hq => cases hq; exact k0
  | 1, hq => cases hq; exact k1
  | 2, hq => cases hq; exact k2
  | 3, hq => cases hq; exact k3
  | 4, hq => cases hq; exact k4
  | 5, hq => cases hq; exact k5
  | 6, hq => cases hq; exact k6
  | 7, hq => cases hq; exact k7
  | 8, hq => cases hq; exact k8
  | 9, hq => cases hq; exact k9
  | 10, hq => cases hq; exact k10
  | 11, hq => cases hq; exact k11
  | 12, hq => cases hq; exact k12
  | k + 13, hq => simp [vwCl] at hq
/-- the pure heap where the law begins -/
def h00 (L : Nat) (xs : Nat → Int32) : Hp := (0, 0, fun a => if a < 200 then okd L a else (99, 0), fun a k => if 101 ≤ a ∧ a ≤ 126 then ((sbyt.getD (a - 101) []).getD k 0).toInt else if a = 91 then (xs k).toInt else 0, fun _ _ => 0, fun a k => if 1 ≤ a ∧ a ≤ 26 ∧ k = 0 then 100 + a else 0)
theorem h00_ok {L : Nat} {xs : Nat → Int32} (hL : L ≤ 100000) : okh (h00 L xs) := by
  refine ⟨fun a k => ?_, fun a k => ?_, fun a ha => ?_, fun a => ?_⟩
  · show in32 (if 101 ≤ a ∧ a ≤ 126 then ((sbyt.getD (a - 101) []).getD k 0).toInt else if a = 91 then (xs k).toInt else 0)
    split
    · exact in32_toInt _
    · split
      · exact in32_toInt _
      · exact in32_0
  · show in64 0
    unfold in64; omega
  · have ha' : 200 ≤ a := ha
    show (if a < 200 then okd L a else (99, 0)).1 = 99
    rw [if_neg (by omega)]
  · show (if a < 200 then okd L a else (99, 0)).2 ≤ 100000
    split
    · unfold okd
      split
      · decide
      · split
        · rename_i h1
          have h : ∀ j, j < 26 → slen.getD j 0 ≤ 100000 := by decide +kernel
          exact h (a - 101) (by omega)
        · split
          · decide
          · split
            · exact hL
            · decide
    · decide
theorem h00_old {L : Nat} {xs : Nat → Int32} : OldEq L xs (h00 L xs) := by
  refine ⟨fun a ha => ?_, fun j hj => ⟨?_, ?_, fun k => ?_⟩, fun k => ?_⟩
  · show (if a < 200 then okd L a else (99, 0)) = okd L a
    rw [if_pos ha]
  · show (if 1 ≤ 1 + j ∧ 1 + j ≤ 26 ∧ 0 = 0 then 100 + (1 + j) else 0) = 101 + j
    rw [if_pos (by omega)]; omega
  · show (if 101 ≤ 1 + j ∧ 1 + j ≤ 126 then ((sbyt.getD (1 + j - 101) []).getD 1 0).toInt else if 1 + j = 91 then (xs 1).toInt else 0) = 0
    rw [if_neg (by omega), if_neg (by omega)]
  · show (if 101 ≤ 101 + j ∧ 101 + j ≤ 126 then ((sbyt.getD (101 + j - 101) []).getD k 0).toInt else if 101 + j = 91 then (xs k).toInt else 0) = ((sbyt.getD j []).getD k 0).toInt
    rw [if_pos (by omega), show 101 + j - 101 = j by omega]
  · show (if 101 ≤ 91 ∧ 91 ≤ 126 then ((sbyt.getD (91 - 101) []).getD k 0).toInt else if 91 = 91 then (xs k).toInt else 0) = (xs k).toInt
    rfl

