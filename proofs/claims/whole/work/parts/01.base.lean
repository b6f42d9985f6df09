-- ===== PART A: goes FIRST, ahead of the names: the tables' words, and 'selects' of the private methods out of them =====
/-- a private method of a class that the tables say can be made, by its rows of tables_1 -/
def lw_okq (q : MethodName × Nat) : Prop := (q.1.cls ≠ "java/lang/invoke/MethodHandle" ∧ q.1.cls ≠ "java/lang/invoke/VarHandle") ∧ Cond.instantiable q.1.cls q.2 ∈ tables_1 ∧ Cond.privateMethod q.1 ∈ tables_1 ∧ Cond.instanceMethod q.1 ∈ tables_1
theorem lw_p0 : lw_okq (⟨"LockerRows$Tape", "append", "(I)Z"⟩, 2) := ⟨⟨by decide +kernel, by decide +kernel⟩, List.mem_of_getElem? (i := 17) (by decide +kernel), List.mem_of_getElem? (i := 113) (by decide +kernel), List.mem_of_getElem? (i := 114) (by decide +kernel)⟩
theorem lw_p1 : lw_okq (⟨"LockerRows$Tape", "length", "()I"⟩, 2) := ⟨⟨by decide +kernel, by decide +kernel⟩, List.mem_of_getElem? (i := 17) (by decide +kernel), List.mem_of_getElem? (i := 117) (by decide +kernel), List.mem_of_getElem? (i := 118) (by decide +kernel)⟩
theorem lw_p2 : lw_okq (⟨"LockerRows", "smallestUnused", "(I)I"⟩, 9) := ⟨⟨by decide +kernel, by decide +kernel⟩, List.mem_of_getElem? (i := 7) (by decide +kernel), List.mem_of_getElem? (i := 126) (by decide +kernel), List.mem_of_getElem? (i := 127) (by decide +kernel)⟩
theorem lw_p3 : lw_okq (⟨"LockerRows", "boxAt", "(I)LLockerRows$Box;"⟩, 9) := ⟨⟨by decide +kernel, by decide +kernel⟩, List.mem_of_getElem? (i := 7) (by decide +kernel), List.mem_of_getElem? (i := 130) (by decide +kernel), List.mem_of_getElem? (i := 131) (by decide +kernel)⟩
theorem lw_p4 : lw_okq (⟨"LockerRows$Box", "isUnused", "()Z"⟩, 9) := ⟨⟨by decide +kernel, by decide +kernel⟩, List.mem_of_getElem? (i := 65) (by decide +kernel), List.mem_of_getElem? (i := 134) (by decide +kernel), List.mem_of_getElem? (i := 135) (by decide +kernel)⟩
theorem lw_p5 : lw_okq (⟨"LockerRows$Box", "isEmpty", "()Z"⟩, 9) := ⟨⟨by decide +kernel, by decide +kernel⟩, List.mem_of_getElem? (i := 65) (by decide +kernel), List.mem_of_getElem? (i := 138) (by decide +kernel), List.mem_of_getElem? (i := 139) (by decide +kernel)⟩
theorem lw_p6 : lw_okq (⟨"LockerRows", "isTime", "(J)Z"⟩, 9) := ⟨⟨by decide +kernel, by decide +kernel⟩, List.mem_of_getElem? (i := 7) (by decide +kernel), List.mem_of_getElem? (i := 149) (by decide +kernel), List.mem_of_getElem? (i := 150) (by decide +kernel)⟩
theorem lw_p7 : lw_okq (⟨"LockerRows", "passTo", "(J)V"⟩, 9) := ⟨⟨by decide +kernel, by decide +kernel⟩, List.mem_of_getElem? (i := 7) (by decide +kernel), List.mem_of_getElem? (i := 153) (by decide +kernel), List.mem_of_getElem? (i := 154) (by decide +kernel)⟩
theorem lw_p8 : lw_okq (⟨"LockerRows$Box", "freeIfDue", "(J)Z"⟩, 9) := ⟨⟨by decide +kernel, by decide +kernel⟩, List.mem_of_getElem? (i := 65) (by decide +kernel), List.mem_of_getElem? (i := 157) (by decide +kernel), List.mem_of_getElem? (i := 158) (by decide +kernel)⟩
theorem lw_p9 : lw_okq (⟨"LockerRows", "noteFreed", "(I)V"⟩, 9) := ⟨⟨by decide +kernel, by decide +kernel⟩, List.mem_of_getElem? (i := 7) (by decide +kernel), List.mem_of_getElem? (i := 161) (by decide +kernel), List.mem_of_getElem? (i := 162) (by decide +kernel)⟩
theorem lw_p10 : lw_okq (⟨"LockerRows$Box", "tellAlarms", "(J)I"⟩, 9) := ⟨⟨by decide +kernel, by decide +kernel⟩, List.mem_of_getElem? (i := 65) (by decide +kernel), List.mem_of_getElem? (i := 165) (by decide +kernel), List.mem_of_getElem? (i := 166) (by decide +kernel)⟩
theorem lw_p11 : lw_okq (⟨"LockerRows$Box", "isOpenOrForced", "()Z"⟩, 9) := ⟨⟨by decide +kernel, by decide +kernel⟩, List.mem_of_getElem? (i := 65) (by decide +kernel), List.mem_of_getElem? (i := 169) (by decide +kernel), List.mem_of_getElem? (i := 170) (by decide +kernel)⟩
theorem lw_p12 : lw_okq (⟨"LockerRows$Box", "lies", "()Z"⟩, 9) := ⟨⟨by decide +kernel, by decide +kernel⟩, List.mem_of_getElem? (i := 65) (by decide +kernel), List.mem_of_getElem? (i := 174) (by decide +kernel), List.mem_of_getElem? (i := 175) (by decide +kernel)⟩
theorem lw_p13 : lw_okq (⟨"LockerRows", "boxOfItem", "(I)LLockerRows$Box;"⟩, 9) := ⟨⟨by decide +kernel, by decide +kernel⟩, List.mem_of_getElem? (i := 7) (by decide +kernel), List.mem_of_getElem? (i := 180) (by decide +kernel), List.mem_of_getElem? (i := 181) (by decide +kernel)⟩
theorem lw_p14 : lw_okq (⟨"LockerRows$Box", "receive", "(I)V"⟩, 9) := ⟨⟨by decide +kernel, by decide +kernel⟩, List.mem_of_getElem? (i := 65) (by decide +kernel), List.mem_of_getElem? (i := 184) (by decide +kernel), List.mem_of_getElem? (i := 185) (by decide +kernel)⟩
theorem lw_p15 : lw_okq (⟨"LockerRows$Box", "wantsCode", "()Z"⟩, 9) := ⟨⟨by decide +kernel, by decide +kernel⟩, List.mem_of_getElem? (i := 65) (by decide +kernel), List.mem_of_getElem? (i := 192) (by decide +kernel), List.mem_of_getElem? (i := 193) (by decide +kernel)⟩
def lw_privs_1 : List (MethodName × Nat) := [(⟨"LockerRows$Tape", "append", "(I)Z"⟩, 2), (⟨"LockerRows$Tape", "length", "()I"⟩, 2), (⟨"LockerRows", "smallestUnused", "(I)I"⟩, 9), (⟨"LockerRows", "boxAt", "(I)LLockerRows$Box;"⟩, 9), (⟨"LockerRows$Box", "isUnused", "()Z"⟩, 9), (⟨"LockerRows$Box", "isEmpty", "()Z"⟩, 9), (⟨"LockerRows", "isTime", "(J)Z"⟩, 9), (⟨"LockerRows", "passTo", "(J)V"⟩, 9), (⟨"LockerRows$Box", "freeIfDue", "(J)Z"⟩, 9), (⟨"LockerRows", "noteFreed", "(I)V"⟩, 9), (⟨"LockerRows$Box", "tellAlarms", "(J)I"⟩, 9), (⟨"LockerRows$Box", "isOpenOrForced", "()Z"⟩, 9), (⟨"LockerRows$Box", "lies", "()Z"⟩, 9), (⟨"LockerRows", "boxOfItem", "(I)LLockerRows$Box;"⟩, 9), (⟨"LockerRows$Box", "receive", "(I)V"⟩, 9), (⟨"LockerRows$Box", "wantsCode", "()Z"⟩, 9)]
theorem lw_r1 : ∀ q ∈ lw_privs_1, lw_okq q := List.forall_mem_cons.mpr ⟨lw_p0, List.forall_mem_cons.mpr ⟨lw_p1, List.forall_mem_cons.mpr ⟨lw_p2, List.forall_mem_cons.mpr ⟨lw_p3, List.forall_mem_cons.mpr ⟨lw_p4, List.forall_mem_cons.mpr ⟨lw_p5, List.forall_mem_cons.mpr ⟨lw_p6, List.forall_mem_cons.mpr ⟨lw_p7, List.forall_mem_cons.mpr ⟨lw_p8, List.forall_mem_cons.mpr ⟨lw_p9, List.forall_mem_cons.mpr ⟨lw_p10, List.forall_mem_cons.mpr ⟨lw_p11, List.forall_mem_cons.mpr ⟨lw_p12, List.forall_mem_cons.mpr ⟨lw_p13, List.forall_mem_cons.mpr ⟨lw_p14, List.forall_mem_cons.mpr ⟨lw_p15, fun _ h => absurd h List.not_mem_nil⟩⟩⟩⟩⟩⟩⟩⟩⟩⟩⟩⟩⟩⟩⟩⟩
theorem lw_p16 : lw_okq (⟨"LockerRows", "wantedCode", "()I"⟩, 9) := ⟨⟨by decide +kernel, by decide +kernel⟩, List.mem_of_getElem? (i := 7) (by decide +kernel), List.mem_of_getElem? (i := 196) (by decide +kernel), List.mem_of_getElem? (i := 197) (by decide +kernel)⟩
theorem lw_p17 : lw_okq (⟨"LockerRows$Tape", "at", "(I)I"⟩, 2) := ⟨⟨by decide +kernel, by decide +kernel⟩, List.mem_of_getElem? (i := 17) (by decide +kernel), List.mem_of_getElem? (i := 200) (by decide +kernel), List.mem_of_getElem? (i := 201) (by decide +kernel)⟩
theorem lw_p18 : lw_okq (⟨"LockerRows", "boxNumberOfCode", "(I)I"⟩, 9) := ⟨⟨by decide +kernel, by decide +kernel⟩, List.mem_of_getElem? (i := 7) (by decide +kernel), List.mem_of_getElem? (i := 204) (by decide +kernel), List.mem_of_getElem? (i := 205) (by decide +kernel)⟩
theorem lw_p19 : lw_okq (⟨"LockerRows$Tape", "dropFirst", "(I)V"⟩, 2) := ⟨⟨by decide +kernel, by decide +kernel⟩, List.mem_of_getElem? (i := 17) (by decide +kernel), List.mem_of_getElem? (i := 209) (by decide +kernel), List.mem_of_getElem? (i := 210) (by decide +kernel)⟩
theorem lw_p20 : lw_okq (⟨"LockerRows$Box", "layDown", "(IJ)V"⟩, 9) := ⟨⟨by decide +kernel, by decide +kernel⟩, List.mem_of_getElem? (i := 65) (by decide +kernel), List.mem_of_getElem? (i := 216) (by decide +kernel), List.mem_of_getElem? (i := 217) (by decide +kernel)⟩
theorem lw_p21 : lw_okq (⟨"LockerRows", "countWrongTry", "(J)V"⟩, 9) := ⟨⟨by decide +kernel, by decide +kernel⟩, List.mem_of_getElem? (i := 7) (by decide +kernel), List.mem_of_getElem? (i := 224) (by decide +kernel), List.mem_of_getElem? (i := 225) (by decide +kernel)⟩
theorem lw_p22 : lw_okq (⟨"LockerRows$Box", "clear", "()V"⟩, 9) := ⟨⟨by decide +kernel, by decide +kernel⟩, List.mem_of_getElem? (i := 65) (by decide +kernel), List.mem_of_getElem? (i := 229) (by decide +kernel), List.mem_of_getElem? (i := 230) (by decide +kernel)⟩
theorem lw_p23 : lw_okq (⟨"LockerRows$Box", "beginOpening", "(IJ)V"⟩, 9) := ⟨⟨by decide +kernel, by decide +kernel⟩, List.mem_of_getElem? (i := 65) (by decide +kernel), List.mem_of_getElem? (i := 233) (by decide +kernel), List.mem_of_getElem? (i := 234) (by decide +kernel)⟩
theorem lw_p24 : lw_okq (⟨"LockerRows$Box", "admits", "(I)Z"⟩, 9) := ⟨⟨by decide +kernel, by decide +kernel⟩, List.mem_of_getElem? (i := 65) (by decide +kernel), List.mem_of_getElem? (i := 248) (by decide +kernel), List.mem_of_getElem? (i := 249) (by decide +kernel)⟩
theorem lw_p25 : lw_okq (⟨"LockerRows$Box", "undergo", "(IJ)V"⟩, 9) := ⟨⟨by decide +kernel, by decide +kernel⟩, List.mem_of_getElem? (i := 65) (by decide +kernel), List.mem_of_getElem? (i := 253) (by decide +kernel), List.mem_of_getElem? (i := 254) (by decide +kernel)⟩
theorem lw_p26 : lw_okq (⟨"LockerRowsModel", "isBox", "(I)Z"⟩, 18) := ⟨⟨by decide +kernel, by decide +kernel⟩, List.mem_of_getElem? (i := 275) (by decide +kernel), List.mem_of_getElem? (i := 360) (by decide +kernel), List.mem_of_getElem? (i := 361) (by decide +kernel)⟩
theorem lw_p27 : lw_okq (⟨"LockerRowsModel", "isNoTime", "(J)Z"⟩, 18) := ⟨⟨by decide +kernel, by decide +kernel⟩, List.mem_of_getElem? (i := 275) (by decide +kernel), List.mem_of_getElem? (i := 365) (by decide +kernel), List.mem_of_getElem? (i := 366) (by decide +kernel)⟩
theorem lw_p28 : lw_okq (⟨"LockerRowsModel", "pass", "(J)V"⟩, 18) := ⟨⟨by decide +kernel, by decide +kernel⟩, List.mem_of_getElem? (i := 275) (by decide +kernel), List.mem_of_getElem? (i := 369) (by decide +kernel), List.mem_of_getElem? (i := 370) (by decide +kernel)⟩
theorem lw_p29 : lw_okq (⟨"LockerRowsModel", "isCode", "(I)Z"⟩, 18) := ⟨⟨by decide +kernel, by decide +kernel⟩, List.mem_of_getElem? (i := 275) (by decide +kernel), List.mem_of_getElem? (i := 379) (by decide +kernel), List.mem_of_getElem? (i := 380) (by decide +kernel)⟩
theorem lw_p30 : lw_okq (⟨"LockerRowsModel", "out", "(I)I"⟩, 18) := ⟨⟨by decide +kernel, by decide +kernel⟩, List.mem_of_getElem? (i := 275) (by decide +kernel), List.mem_of_getElem? (i := 387) (by decide +kernel), List.mem_of_getElem? (i := 388) (by decide +kernel)⟩
theorem lw_p31 : lw_okq (⟨"LockerRowsModel", "open", "(II)V"⟩, 18) := ⟨⟨by decide +kernel, by decide +kernel⟩, List.mem_of_getElem? (i := 275) (by decide +kernel), List.mem_of_getElem? (i := 391) (by decide +kernel), List.mem_of_getElem? (i := 392) (by decide +kernel)⟩
def lw_privs_2 : List (MethodName × Nat) := [(⟨"LockerRows", "wantedCode", "()I"⟩, 9), (⟨"LockerRows$Tape", "at", "(I)I"⟩, 2), (⟨"LockerRows", "boxNumberOfCode", "(I)I"⟩, 9), (⟨"LockerRows$Tape", "dropFirst", "(I)V"⟩, 2), (⟨"LockerRows$Box", "layDown", "(IJ)V"⟩, 9), (⟨"LockerRows", "countWrongTry", "(J)V"⟩, 9), (⟨"LockerRows$Box", "clear", "()V"⟩, 9), (⟨"LockerRows$Box", "beginOpening", "(IJ)V"⟩, 9), (⟨"LockerRows$Box", "admits", "(I)Z"⟩, 9), (⟨"LockerRows$Box", "undergo", "(IJ)V"⟩, 9), (⟨"LockerRowsModel", "isBox", "(I)Z"⟩, 18), (⟨"LockerRowsModel", "isNoTime", "(J)Z"⟩, 18), (⟨"LockerRowsModel", "pass", "(J)V"⟩, 18), (⟨"LockerRowsModel", "isCode", "(I)Z"⟩, 18), (⟨"LockerRowsModel", "out", "(I)I"⟩, 18), (⟨"LockerRowsModel", "open", "(II)V"⟩, 18)]
theorem lw_r2 : ∀ q ∈ lw_privs_2, lw_okq q := List.forall_mem_cons.mpr ⟨lw_p16, List.forall_mem_cons.mpr ⟨lw_p17, List.forall_mem_cons.mpr ⟨lw_p18, List.forall_mem_cons.mpr ⟨lw_p19, List.forall_mem_cons.mpr ⟨lw_p20, List.forall_mem_cons.mpr ⟨lw_p21, List.forall_mem_cons.mpr ⟨lw_p22, List.forall_mem_cons.mpr ⟨lw_p23, List.forall_mem_cons.mpr ⟨lw_p24, List.forall_mem_cons.mpr ⟨lw_p25, List.forall_mem_cons.mpr ⟨lw_p26, List.forall_mem_cons.mpr ⟨lw_p27, List.forall_mem_cons.mpr ⟨lw_p28, List.forall_mem_cons.mpr ⟨lw_p29, List.forall_mem_cons.mpr ⟨lw_p30, List.forall_mem_cons.mpr ⟨lw_p31, fun _ h => absurd h List.not_mem_nil⟩⟩⟩⟩⟩⟩⟩⟩⟩⟩⟩⟩⟩⟩⟩⟩
def lw_privs : List (MethodName × Nat) := lw_privs_1 ++ (lw_privs_2)
def lw_tbl : List Cond := k2_sels lw_privs ++ tables_1
theorem lw_privs_ok : ∀ q ∈ lw_privs, lw_okq q := by
  show ∀ q ∈ lw_privs_1 ++ (lw_privs_2), lw_okq q
  exact List.forall_mem_append.mpr ⟨lw_r1, lw_r2⟩
def RzL : String := "LockerRows"
def RzB : String := "LockerRows$Box"
def RzT : String := "LockerRows$Tape"
def RzM : String := "LockerRowsModel"
def RzW : String := "LockerRowsLaw"
def TzB : u_T := fun k => match k with
  | 0 => ("LockerRows$Box", "size", "I", true)
  | 1 => ("LockerRows$Box", "door", "I", false)
  | 2 => ("LockerRows$Box", "openSince", "J", false)
  | 3 => ("LockerRows$Box", "openingTold", "Z", false)
  | 4 => ("LockerRows$Box", "item", "I", false)
  | 5 => ("LockerRows$Box", "code", "I", false)
  | 6 => ("LockerRows$Box", "liesSince", "J", false)
  | 7 => ("LockerRows$Box", "late", "Z", false)
  | _ => ("LockerRows$Box", "keptUntil", "J", false)
def tyzB : Nat → FieldType := fun k => match k with
  | 0 => .int
  | 1 => .int
  | 2 => .long
  | 3 => .boolean
  | 4 => .int
  | 5 => .int
  | 6 => .long
  | 7 => .boolean
  | _ => .long
theorem nmzB : ∀ a, a < 9 → ∀ b, b < 9 → a ≠ b → (TzB a).2.1 ≠ (TzB b).2.1 := by decide +kernel
theorem tyzB_ok : ∀ k, k < 9 → parseFieldDescriptor (TzB k).2.2.1 = some (tyzB k) := by decide +kernel
def TzT : u_T := fun k => match k with
  | 0 => ("LockerRows$Tape", "row", "[I", true)
  | _ => ("LockerRows$Tape", "count", "I", false)
def tyzT : Nat → FieldType := fun k => match k with
  | 0 => .array .int
  | _ => .int
theorem nmzT : ∀ a, a < 2 → ∀ b, b < 2 → a ≠ b → (TzT a).2.1 ≠ (TzT b).2.1 := by decide +kernel
theorem tyzT_ok : ∀ k, k < 2 → parseFieldDescriptor (TzT k).2.2.1 = some (tyzT k) := by decide +kernel
def TzL : u_T := fun k => match k with
  | 0 => ("LockerRows", "boxes", "[LLockerRows$Box;", true)
  | 1 => ("LockerRows", "boxCount", "I", false)
  | 2 => ("LockerRows", "numbers", "LLockerRows$Tape;", true)
  | 3 => ("LockerRows", "freedBoxes", "[I", true)
  | 4 => ("LockerRows", "freedCount", "I", false)
  | 5 => ("LockerRows", "time", "J", false)
  | 6 => ("LockerRows", "alarms", "I", false)
  | 7 => ("LockerRows", "wrongTries", "I", false)
  | _ => ("LockerRows", "keypadWaitsUntil", "J", false)
def tyzL : Nat → FieldType := fun k => match k with
  | 0 => .array (.object "LockerRows$Box")
  | 1 => .int
  | 2 => .object "LockerRows$Tape"
  | 3 => .array .int
  | 4 => .int
  | 5 => .long
  | 6 => .int
  | 7 => .int
  | _ => .long
theorem nmzL : ∀ a, a < 9 → ∀ b, b < 9 → a ≠ b → (TzL a).2.1 ≠ (TzL b).2.1 := by decide +kernel
theorem tyzL_ok : ∀ k, k < 9 → parseFieldDescriptor (TzL k).2.2.1 = some (tyzL k) := by decide +kernel
def TzM : u_T := fun k => match k with
  | 0 => ("LockerRowsModel", "boxes", "I", false)
  | 1 => ("LockerRowsModel", "sizes", "[I", true)
  | 2 => ("LockerRowsModel", "doors", "[I", true)
  | 3 => ("LockerRowsModel", "since", "[J", true)
  | 4 => ("LockerRowsModel", "told", "[Z", true)
  | 5 => ("LockerRowsModel", "items", "[I", true)
  | 6 => ("LockerRowsModel", "codes", "[I", true)
  | 7 => ("LockerRowsModel", "lies", "[J", true)
  | 8 => ("LockerRowsModel", "late", "[Z", true)
  | 9 => ("LockerRowsModel", "kept", "[J", true)
  | 10 => ("LockerRowsModel", "time", "J", false)
  | 11 => ("LockerRowsModel", "alarms", "I", false)
  | 12 => ("LockerRowsModel", "wrong", "I", false)
  | 13 => ("LockerRowsModel", "waits", "J", false)
  | 14 => ("LockerRowsModel", "taped", "I", false)
  | 15 => ("LockerRowsModel", "tape", "[I", true)
  | 16 => ("LockerRowsModel", "freed", "I", false)
  | _ => ("LockerRowsModel", "free", "[I", true)
def tyzM : Nat → FieldType := fun k => match k with
  | 0 => .int
  | 1 => .array .int
  | 2 => .array .int
  | 3 => .array .long
  | 4 => .array .boolean
  | 5 => .array .int
  | 6 => .array .int
  | 7 => .array .long
  | 8 => .array .boolean
  | 9 => .array .long
  | 10 => .long
  | 11 => .int
  | 12 => .int
  | 13 => .long
  | 14 => .int
  | 15 => .array .int
  | 16 => .int
  | _ => .array .int
theorem nmzM : ∀ a, a < 18 → ∀ b, b < 18 → a ≠ b → (TzM a).2.1 ≠ (TzM b).2.1 := by decide +kernel
theorem tyzM_ok : ∀ k, k < 18 → parseFieldDescriptor (TzM k).2.2.1 = some (tyzM k) := by decide +kernel
abbrev vwCl : List vw_C := [(RzB, TzB, 9), (RzT, TzT, 2), (RzL, TzL, 9), (RzM, TzM, 18)]
abbrev cz_L_init : ByteArray := prog_1_method_1_code
def yz_L_init : MethodName := ⟨RzL, "<init>", "()V"⟩
abbrev cz_L_box : ByteArray := prog_1_method_2_code
def yz_L_box : MethodName := ⟨RzL, "box", "(I)I"⟩
abbrev cz_L_tape : ByteArray := prog_1_method_3_code
def yz_L_tape : MethodName := ⟨RzL, "tape", "(I)I"⟩
abbrev cz_L_reserve : ByteArray := prog_1_method_4_code
def yz_L_reserve : MethodName := ⟨RzL, "reserve", "(IJ)I"⟩
abbrev cz_L_put : ByteArray := prog_1_method_5_code
def yz_L_put : MethodName := ⟨RzL, "put", "(IIJ)I"⟩
abbrev cz_L_close : ByteArray := prog_1_method_6_code
def yz_L_close : MethodName := ⟨RzL, "close", "(IJ)I"⟩
abbrev cz_L_type : ByteArray := prog_1_method_7_code
def yz_L_type : MethodName := ⟨RzL, "type", "(IJ)I"⟩
abbrev cz_L_code : ByteArray := prog_1_method_8_code
def yz_L_code : MethodName := ⟨RzL, "code", "(I)I"⟩
abbrev cz_L_door : ByteArray := prog_1_method_9_code
def yz_L_door : MethodName := ⟨RzL, "door", "(IIJ)I"⟩
abbrev cz_L_tick : ByteArray := prog_1_method_10_code
def yz_L_tick : MethodName := ⟨RzL, "tick", "(J)I"⟩
abbrev cz_L_take : ByteArray := prog_1_method_11_code
def yz_L_take : MethodName := ⟨RzL, "take", "(II)I"⟩
abbrev cz_L_item : ByteArray := prog_1_method_12_code
def yz_L_item : MethodName := ⟨RzL, "item", "(I)I"⟩
abbrev cz_L_freed : ByteArray := prog_1_method_13_code
def yz_L_freed : MethodName := ⟨RzL, "freed", "(I)I"⟩
abbrev cz_L_isSize : ByteArray := prog_1_method_14_code
def yz_L_isSize : MethodName := ⟨RzL, "isSize", "(I)Z"⟩
abbrev cz_L_isItem : ByteArray := prog_1_method_15_code
def yz_L_isItem : MethodName := ⟨RzL, "isItem", "(I)Z"⟩
abbrev cz_L_isCode : ByteArray := prog_1_method_16_code
def yz_L_isCode : MethodName := ⟨RzL, "isCode", "(I)Z"⟩
abbrev cz_L_isTime : ByteArray := prog_1_method_17_code
def yz_L_isTime : MethodName := ⟨RzL, "isTime", "(J)Z"⟩
abbrev cz_L_boxAt : ByteArray := prog_1_method_18_code
def yz_L_boxAt : MethodName := ⟨RzL, "boxAt", "(I)LLockerRows$Box;"⟩
abbrev cz_L_boxOfItem : ByteArray := prog_1_method_19_code
def yz_L_boxOfItem : MethodName := ⟨RzL, "boxOfItem", "(I)LLockerRows$Box;"⟩
abbrev cz_L_boxNumberOfCode : ByteArray := prog_1_method_20_code
def yz_L_boxNumberOfCode : MethodName := ⟨RzL, "boxNumberOfCode", "(I)I"⟩
abbrev cz_L_smallestUnused : ByteArray := prog_1_method_21_code
def yz_L_smallestUnused : MethodName := ⟨RzL, "smallestUnused", "(I)I"⟩
abbrev cz_L_wantedCode : ByteArray := prog_1_method_22_code
def yz_L_wantedCode : MethodName := ⟨RzL, "wantedCode", "()I"⟩
abbrev cz_L_countWrongTry : ByteArray := prog_1_method_23_code
def yz_L_countWrongTry : MethodName := ⟨RzL, "countWrongTry", "(J)V"⟩
abbrev cz_L_passTo : ByteArray := prog_1_method_24_code
def yz_L_passTo : MethodName := ⟨RzL, "passTo", "(J)V"⟩
abbrev cz_L_noteFreed : ByteArray := prog_1_method_25_code
def yz_L_noteFreed : MethodName := ⟨RzL, "noteFreed", "(I)V"⟩
abbrev cz_M_init : ByteArray := prog_5_method_1_code
def yz_M_init : MethodName := ⟨RzM, "<init>", "()V"⟩
abbrev cz_M_within : ByteArray := prog_5_method_2_code
def yz_M_within : MethodName := ⟨RzM, "within", "(JJJ)Z"⟩
abbrev cz_M_isBox : ByteArray := prog_5_method_3_code
def yz_M_isBox : MethodName := ⟨RzM, "isBox", "(I)Z"⟩
abbrev cz_M_box : ByteArray := prog_5_method_4_code
def yz_M_box : MethodName := ⟨RzM, "box", "(I)I"⟩
abbrev cz_M_tape : ByteArray := prog_5_method_5_code
def yz_M_tape : MethodName := ⟨RzM, "tape", "(I)I"⟩
abbrev cz_M_isNoTime : ByteArray := prog_5_method_6_code
def yz_M_isNoTime : MethodName := ⟨RzM, "isNoTime", "(J)Z"⟩
abbrev cz_M_pass : ByteArray := prog_5_method_7_code
def yz_M_pass : MethodName := ⟨RzM, "pass", "(J)V"⟩
abbrev cz_M_reserve : ByteArray := prog_5_method_8_code
def yz_M_reserve : MethodName := ⟨RzM, "reserve", "(IJ)I"⟩
abbrev cz_M_put : ByteArray := prog_5_method_9_code
def yz_M_put : MethodName := ⟨RzM, "put", "(IIJ)I"⟩
abbrev cz_M_isCode : ByteArray := prog_5_method_10_code
def yz_M_isCode : MethodName := ⟨RzM, "isCode", "(I)Z"⟩
abbrev cz_M_close : ByteArray := prog_5_method_11_code
def yz_M_close : MethodName := ⟨RzM, "close", "(IJ)I"⟩
abbrev cz_M_open : ByteArray := prog_5_method_12_code
def yz_M_open : MethodName := ⟨RzM, "open", "(II)V"⟩
abbrev cz_M_out : ByteArray := prog_5_method_13_code
def yz_M_out : MethodName := ⟨RzM, "out", "(I)I"⟩
abbrev cz_M_type : ByteArray := prog_5_method_14_code
def yz_M_type : MethodName := ⟨RzM, "type", "(IJ)I"⟩
abbrev cz_M_code : ByteArray := prog_5_method_15_code
def yz_M_code : MethodName := ⟨RzM, "code", "(I)I"⟩
abbrev cz_M_door : ByteArray := prog_5_method_16_code
def yz_M_door : MethodName := ⟨RzM, "door", "(IIJ)I"⟩
abbrev cz_M_tick : ByteArray := prog_5_method_17_code
def yz_M_tick : MethodName := ⟨RzM, "tick", "(J)I"⟩
abbrev cz_M_take : ByteArray := prog_5_method_18_code
def yz_M_take : MethodName := ⟨RzM, "take", "(II)I"⟩
abbrev cz_M_item : ByteArray := prog_5_method_19_code
def yz_M_item : MethodName := ⟨RzM, "item", "(I)I"⟩
abbrev cz_M_freed : ByteArray := prog_5_method_20_code
def yz_M_freed : MethodName := ⟨RzM, "freed", "(I)I"⟩
abbrev cz_B_init : ByteArray := prog_2_method_1_code
def yz_B_init : MethodName := ⟨RzB, "<init>", "(I)V"⟩
abbrev cz_B_isEvent : ByteArray := prog_2_method_2_code
def yz_B_isEvent : MethodName := ⟨RzB, "isEvent", "(I)Z"⟩
abbrev cz_B_isEmpty : ByteArray := prog_2_method_3_code
def yz_B_isEmpty : MethodName := ⟨RzB, "isEmpty", "()Z"⟩
abbrev cz_B_lies : ByteArray := prog_2_method_4_code
def yz_B_lies : MethodName := ⟨RzB, "lies", "()Z"⟩
abbrev cz_B_wantsCode : ByteArray := prog_2_method_5_code
def yz_B_wantsCode : MethodName := ⟨RzB, "wantsCode", "()Z"⟩
abbrev cz_B_isOpenOrForced : ByteArray := prog_2_method_6_code
def yz_B_isOpenOrForced : MethodName := ⟨RzB, "isOpenOrForced", "()Z"⟩
abbrev cz_B_isUnused : ByteArray := prog_2_method_7_code
def yz_B_isUnused : MethodName := ⟨RzB, "isUnused", "()Z"⟩
abbrev cz_B_admits : ByteArray := prog_2_method_8_code
def yz_B_admits : MethodName := ⟨RzB, "admits", "(I)Z"⟩
abbrev cz_B_undergo : ByteArray := prog_2_method_9_code
def yz_B_undergo : MethodName := ⟨RzB, "undergo", "(IJ)V"⟩
abbrev cz_B_beginOpening : ByteArray := prog_2_method_10_code
def yz_B_beginOpening : MethodName := ⟨RzB, "beginOpening", "(IJ)V"⟩
abbrev cz_B_receive : ByteArray := prog_2_method_11_code
def yz_B_receive : MethodName := ⟨RzB, "receive", "(I)V"⟩
abbrev cz_B_layDown : ByteArray := prog_2_method_12_code
def yz_B_layDown : MethodName := ⟨RzB, "layDown", "(IJ)V"⟩
abbrev cz_B_clear : ByteArray := prog_2_method_13_code
def yz_B_clear : MethodName := ⟨RzB, "clear", "()V"⟩
abbrev cz_B_freeIfDue : ByteArray := prog_2_method_14_code
def yz_B_freeIfDue : MethodName := ⟨RzB, "freeIfDue", "(J)Z"⟩
abbrev cz_B_tellAlarms : ByteArray := prog_2_method_15_code
def yz_B_tellAlarms : MethodName := ⟨RzB, "tellAlarms", "(J)I"⟩
abbrev cz_T_init : ByteArray := prog_3_method_1_code
def yz_T_init : MethodName := ⟨RzT, "<init>", "()V"⟩
abbrev cz_T_length : ByteArray := prog_3_method_2_code
def yz_T_length : MethodName := ⟨RzT, "length", "()I"⟩
abbrev cz_T_append : ByteArray := prog_3_method_3_code
def yz_T_append : MethodName := ⟨RzT, "append", "(I)Z"⟩
abbrev cz_T_at : ByteArray := prog_3_method_4_code
def yz_T_at : MethodName := ⟨RzT, "at", "(I)I"⟩
abbrev cz_T_dropFirst : ByteArray := prog_3_method_5_code
def yz_T_dropFirst : MethodName := ⟨RzT, "dropFirst", "(I)V"⟩
abbrev cz_W_law : ByteArray := code
def yz_W_law : MethodName := ⟨RzW, "law", "([I)Z"⟩
theorem zw_lt : lw_tbl = k2_sels lw_privs ++ (tables_1_1 ++ tables_1_2) := rfl
theorem zj_0 : (.selects RzT yz_T_append yz_T_append : Cond) ∈ k2_sels lw_privs ++ (tables_1_1 ++ tables_1_2) := List.mem_append_left _ (List.mem_of_getElem? (i := 0) rfl)
theorem zj_1 : (.selects RzT yz_T_length yz_T_length : Cond) ∈ k2_sels lw_privs ++ (tables_1_1 ++ tables_1_2) := List.mem_append_left _ (List.mem_of_getElem? (i := 1) rfl)
theorem zj_2 : (.selects RzL yz_L_smallestUnused yz_L_smallestUnused : Cond) ∈ k2_sels lw_privs ++ (tables_1_1 ++ tables_1_2) := List.mem_append_left _ (List.mem_of_getElem? (i := 2) rfl)
theorem zj_3 : (.selects RzL yz_L_boxAt yz_L_boxAt : Cond) ∈ k2_sels lw_privs ++ (tables_1_1 ++ tables_1_2) := List.mem_append_left _ (List.mem_of_getElem? (i := 3) rfl)
theorem zj_4 : (.selects RzB yz_B_isUnused yz_B_isUnused : Cond) ∈ k2_sels lw_privs ++ (tables_1_1 ++ tables_1_2) := List.mem_append_left _ (List.mem_of_getElem? (i := 4) rfl)
theorem zj_5 : (.selects RzB yz_B_isEmpty yz_B_isEmpty : Cond) ∈ k2_sels lw_privs ++ (tables_1_1 ++ tables_1_2) := List.mem_append_left _ (List.mem_of_getElem? (i := 5) rfl)
theorem zj_6 : (.selects RzL yz_L_isTime yz_L_isTime : Cond) ∈ k2_sels lw_privs ++ (tables_1_1 ++ tables_1_2) := List.mem_append_left _ (List.mem_of_getElem? (i := 6) rfl)
theorem zj_7 : (.selects RzL yz_L_passTo yz_L_passTo : Cond) ∈ k2_sels lw_privs ++ (tables_1_1 ++ tables_1_2) := List.mem_append_left _ (List.mem_of_getElem? (i := 7) rfl)
theorem zj_8 : (.selects RzB yz_B_freeIfDue yz_B_freeIfDue : Cond) ∈ k2_sels lw_privs ++ (tables_1_1 ++ tables_1_2) := List.mem_append_left _ (List.mem_of_getElem? (i := 8) rfl)
theorem zj_9 : (.selects RzL yz_L_noteFreed yz_L_noteFreed : Cond) ∈ k2_sels lw_privs ++ (tables_1_1 ++ tables_1_2) := List.mem_append_left _ (List.mem_of_getElem? (i := 9) rfl)
theorem zj_10 : (.selects RzB yz_B_tellAlarms yz_B_tellAlarms : Cond) ∈ k2_sels lw_privs ++ (tables_1_1 ++ tables_1_2) := List.mem_append_left _ (List.mem_of_getElem? (i := 10) rfl)
theorem zj_11 : (.selects RzB yz_B_isOpenOrForced yz_B_isOpenOrForced : Cond) ∈ k2_sels lw_privs ++ (tables_1_1 ++ tables_1_2) := List.mem_append_left _ (List.mem_of_getElem? (i := 11) rfl)
theorem zj_12 : (.selects RzB yz_B_lies yz_B_lies : Cond) ∈ k2_sels lw_privs ++ (tables_1_1 ++ tables_1_2) := List.mem_append_left _ (List.mem_of_getElem? (i := 12) rfl)
theorem zj_13 : (.selects RzL yz_L_boxOfItem yz_L_boxOfItem : Cond) ∈ k2_sels lw_privs ++ (tables_1_1 ++ tables_1_2) := List.mem_append_left _ (List.mem_of_getElem? (i := 13) rfl)
theorem zj_14 : (.selects RzB yz_B_receive yz_B_receive : Cond) ∈ k2_sels lw_privs ++ (tables_1_1 ++ tables_1_2) := List.mem_append_left _ (List.mem_of_getElem? (i := 14) rfl)
theorem zj_15 : (.selects RzB yz_B_wantsCode yz_B_wantsCode : Cond) ∈ k2_sels lw_privs ++ (tables_1_1 ++ tables_1_2) := List.mem_append_left _ (List.mem_of_getElem? (i := 15) rfl)
theorem zj_16 : (.selects RzL yz_L_wantedCode yz_L_wantedCode : Cond) ∈ k2_sels lw_privs ++ (tables_1_1 ++ tables_1_2) := List.mem_append_left _ (List.mem_of_getElem? (i := 16) rfl)
theorem zj_17 : (.selects RzT yz_T_at yz_T_at : Cond) ∈ k2_sels lw_privs ++ (tables_1_1 ++ tables_1_2) := List.mem_append_left _ (List.mem_of_getElem? (i := 17) rfl)
theorem zj_18 : (.selects RzL yz_L_boxNumberOfCode yz_L_boxNumberOfCode : Cond) ∈ k2_sels lw_privs ++ (tables_1_1 ++ tables_1_2) := List.mem_append_left _ (List.mem_of_getElem? (i := 18) rfl)
theorem zj_19 : (.selects RzT yz_T_dropFirst yz_T_dropFirst : Cond) ∈ k2_sels lw_privs ++ (tables_1_1 ++ tables_1_2) := List.mem_append_left _ (List.mem_of_getElem? (i := 19) rfl)
theorem zj_20 : (.selects RzB yz_B_layDown yz_B_layDown : Cond) ∈ k2_sels lw_privs ++ (tables_1_1 ++ tables_1_2) := List.mem_append_left _ (List.mem_of_getElem? (i := 20) rfl)
theorem zj_21 : (.selects RzL yz_L_countWrongTry yz_L_countWrongTry : Cond) ∈ k2_sels lw_privs ++ (tables_1_1 ++ tables_1_2) := List.mem_append_left _ (List.mem_of_getElem? (i := 21) rfl)
theorem zj_22 : (.selects RzB yz_B_clear yz_B_clear : Cond) ∈ k2_sels lw_privs ++ (tables_1_1 ++ tables_1_2) := List.mem_append_left _ (List.mem_of_getElem? (i := 22) rfl)
theorem zj_23 : (.selects RzB yz_B_beginOpening yz_B_beginOpening : Cond) ∈ k2_sels lw_privs ++ (tables_1_1 ++ tables_1_2) := List.mem_append_left _ (List.mem_of_getElem? (i := 23) rfl)
theorem zj_24 : (.selects RzB yz_B_admits yz_B_admits : Cond) ∈ k2_sels lw_privs ++ (tables_1_1 ++ tables_1_2) := List.mem_append_left _ (List.mem_of_getElem? (i := 24) rfl)
theorem zj_25 : (.selects RzB yz_B_undergo yz_B_undergo : Cond) ∈ k2_sels lw_privs ++ (tables_1_1 ++ tables_1_2) := List.mem_append_left _ (List.mem_of_getElem? (i := 25) rfl)
theorem zj_26 : (.selects RzM yz_M_isBox yz_M_isBox : Cond) ∈ k2_sels lw_privs ++ (tables_1_1 ++ tables_1_2) := List.mem_append_left _ (List.mem_of_getElem? (i := 26) rfl)
theorem zj_27 : (.selects RzM yz_M_isNoTime yz_M_isNoTime : Cond) ∈ k2_sels lw_privs ++ (tables_1_1 ++ tables_1_2) := List.mem_append_left _ (List.mem_of_getElem? (i := 27) rfl)
theorem zj_28 : (.selects RzM yz_M_pass yz_M_pass : Cond) ∈ k2_sels lw_privs ++ (tables_1_1 ++ tables_1_2) := List.mem_append_left _ (List.mem_of_getElem? (i := 28) rfl)
theorem zj_29 : (.selects RzM yz_M_isCode yz_M_isCode : Cond) ∈ k2_sels lw_privs ++ (tables_1_1 ++ tables_1_2) := List.mem_append_left _ (List.mem_of_getElem? (i := 29) rfl)
theorem zj_30 : (.selects RzM yz_M_out yz_M_out : Cond) ∈ k2_sels lw_privs ++ (tables_1_1 ++ tables_1_2) := List.mem_append_left _ (List.mem_of_getElem? (i := 30) rfl)
theorem zj_31 : (.selects RzM yz_M_open yz_M_open : Cond) ∈ k2_sels lw_privs ++ (tables_1_1 ++ tables_1_2) := List.mem_append_left _ (List.mem_of_getElem? (i := 31) rfl)
theorem zj_32 : (.initialized RzW : Cond) ∈ k2_sels lw_privs ++ (tables_1_1 ++ tables_1_2) := List.mem_append_right _ (List.mem_append_left _ (List.mem_of_getElem? (i := 0) rfl))
theorem zj_33 : (.initialized RzL : Cond) ∈ k2_sels lw_privs ++ (tables_1_1 ++ tables_1_2) := List.mem_append_right _ (List.mem_append_left _ (List.mem_of_getElem? (i := 1) rfl))
theorem zj_34 : (.initialized RzT : Cond) ∈ k2_sels lw_privs ++ (tables_1_1 ++ tables_1_2) := List.mem_append_right _ (List.mem_append_left _ (List.mem_of_getElem? (i := 2) rfl))
theorem zj_35 : (.initialized RzM : Cond) ∈ k2_sels lw_privs ++ (tables_1_1 ++ tables_1_2) := List.mem_append_right _ (List.mem_append_left _ (List.mem_of_getElem? (i := 3) rfl))
theorem zj_36 : (.initialized RzB : Cond) ∈ k2_sels lw_privs ++ (tables_1_1 ++ tables_1_2) := List.mem_append_right _ (List.mem_append_left _ (List.mem_of_getElem? (i := 4) rfl))
theorem zj_37 : (.initialized "java/lang/System" : Cond) ∈ k2_sels lw_privs ++ (tables_1_1 ++ tables_1_2) := List.mem_append_right _ (List.mem_append_left _ (List.mem_of_getElem? (i := 5) rfl))
theorem zj_38 : (.classLink RzW 7 RzL : Cond) ∈ k2_sels lw_privs ++ (tables_1_1 ++ tables_1_2) := List.mem_append_right _ (List.mem_append_left _ (List.mem_of_getElem? (i := 6) rfl))
theorem zj_39 : (.instantiable RzL 9 : Cond) ∈ k2_sels lw_privs ++ (tables_1_1 ++ tables_1_2) := List.mem_append_right _ (List.mem_append_left _ (List.mem_of_getElem? (i := 7) rfl))
theorem zj_40 : (.methodLink RzW 9 yz_L_init : Cond) ∈ k2_sels lw_privs ++ (tables_1_1 ++ tables_1_2) := List.mem_append_right _ (List.mem_append_left _ (List.mem_of_getElem? (i := 8) rfl))
theorem zj_41 : (.instanceMethod yz_L_init : Cond) ∈ k2_sels lw_privs ++ (tables_1_1 ++ tables_1_2) := List.mem_append_right _ (List.mem_append_left _ (List.mem_of_getElem? (i := 9) rfl))
theorem zj_42 : (.code yz_L_init cz_L_init 1 (Option.none : Option Jvm.ClassFile.FieldType) : Cond) ∈ k2_sels lw_privs ++ (tables_1_1 ++ tables_1_2) := List.mem_append_right _ (List.mem_append_left _ (List.mem_of_getElem? (i := 10) rfl))
theorem zj_43 : (.methodLink RzL 1 objectInit : Cond) ∈ k2_sels lw_privs ++ (tables_1_1 ++ tables_1_2) := List.mem_append_right _ (List.mem_append_left _ (List.mem_of_getElem? (i := 11) rfl))
theorem zj_44 : (.instanceMethod objectInit : Cond) ∈ k2_sels lw_privs ++ (tables_1_1 ++ tables_1_2) := List.mem_append_right _ (List.mem_append_left _ (List.mem_of_getElem? (i := 12) rfl))
theorem zj_45 : (.code objectInit ⟨#[0xb1]⟩ 1 none : Cond) ∈ k2_sels lw_privs ++ (tables_1_1 ++ tables_1_2) := List.mem_append_right _ (List.mem_append_left _ (List.mem_of_getElem? (i := 13) rfl))
theorem zj_46 : (.classLink RzL 9 RzB : Cond) ∈ k2_sels lw_privs ++ (tables_1_1 ++ tables_1_2) := List.mem_append_right _ (List.mem_append_left _ (List.mem_of_getElem? (i := 14) rfl))
theorem zj_47 : (.classLink RzL 19 RzT : Cond) ∈ k2_sels lw_privs ++ (tables_1_1 ++ tables_1_2) := List.mem_append_right _ (List.mem_append_left _ (List.mem_of_getElem? (i := 16) rfl))
theorem zj_48 : (.instantiable RzT 2 : Cond) ∈ k2_sels lw_privs ++ (tables_1_1 ++ tables_1_2) := List.mem_append_right _ (List.mem_append_left _ (List.mem_of_getElem? (i := 17) rfl))
theorem zj_49 : (.instanceMethod yz_T_init : Cond) ∈ k2_sels lw_privs ++ (tables_1_1 ++ tables_1_2) := List.mem_append_right _ (List.mem_append_left _ (List.mem_of_getElem? (i := 19) rfl))
theorem zj_50 : (.code yz_T_init cz_T_init 1 (Option.none : Option Jvm.ClassFile.FieldType) : Cond) ∈ k2_sels lw_privs ++ (tables_1_1 ++ tables_1_2) := List.mem_append_right _ (List.mem_append_left _ (List.mem_of_getElem? (i := 20) rfl))
theorem zj_51 : (.methodLink RzT 3 objectInit : Cond) ∈ k2_sels lw_privs ++ (tables_1_1 ++ tables_1_2) := List.mem_append_right _ (List.mem_append_left _ (List.mem_of_getElem? (i := 21) rfl))
theorem zj_52 : (.fieldLink RzT 11 "LockerRows$Tape" "row" "[I" : Cond) ∈ k2_sels lw_privs ++ (tables_1_1 ++ tables_1_2) := List.mem_append_right _ (List.mem_append_left _ (List.mem_of_getElem? (i := 22) rfl))
theorem zj_53 : (.fieldLink RzT 15 "LockerRows$Tape" "count" "I" : Cond) ∈ k2_sels lw_privs ++ (tables_1_1 ++ tables_1_2) := List.mem_append_right _ (List.mem_append_left _ (List.mem_of_getElem? (i := 23) rfl))
theorem zj_54 : (.laysFinal "LockerRows$Tape" "LockerRows$Tape" "row" "[I" : Cond) ∈ k2_sels lw_privs ++ (tables_1_1 ++ tables_1_2) := List.mem_append_right _ (List.mem_append_left _ (List.mem_of_getElem? (i := 24) rfl))
theorem zj_55 : (.lays "LockerRows$Tape" "LockerRows$Tape" "count" "I" : Cond) ∈ k2_sels lw_privs ++ (tables_1_1 ++ tables_1_2) := List.mem_append_right _ (List.mem_append_left _ (List.mem_of_getElem? (i := 26) rfl))
theorem zj_56 : (.arrayClass .int : Cond) ∈ k2_sels lw_privs ++ (tables_1_1 ++ tables_1_2) := List.mem_append_right _ (List.mem_append_left _ (List.mem_of_getElem? (i := 29) rfl))
theorem zj_57 : (.fieldLink RzL 11 "LockerRows" "boxes" "[LLockerRows$Box;" : Cond) ∈ k2_sels lw_privs ++ (tables_1_1 ++ tables_1_2) := List.mem_append_right _ (List.mem_append_left _ (List.mem_of_getElem? (i := 30) rfl))
theorem zj_58 : (.fieldLink RzL 15 "LockerRows" "boxCount" "I" : Cond) ∈ k2_sels lw_privs ++ (tables_1_1 ++ tables_1_2) := List.mem_append_right _ (List.mem_append_left _ (List.mem_of_getElem? (i := 31) rfl))
theorem zj_59 : (.fieldLink RzL 22 "LockerRows" "numbers" "LLockerRows$Tape;" : Cond) ∈ k2_sels lw_privs ++ (tables_1_1 ++ tables_1_2) := List.mem_append_right _ (List.mem_append_left _ (List.mem_of_getElem? (i := 32) rfl))
theorem zj_60 : (.fieldLink RzL 26 "LockerRows" "freedBoxes" "[I" : Cond) ∈ k2_sels lw_privs ++ (tables_1_1 ++ tables_1_2) := List.mem_append_right _ (List.mem_append_left _ (List.mem_of_getElem? (i := 33) rfl))
theorem zj_61 : (.fieldLink RzL 30 "LockerRows" "freedCount" "I" : Cond) ∈ k2_sels lw_privs ++ (tables_1_1 ++ tables_1_2) := List.mem_append_right _ (List.mem_append_left _ (List.mem_of_getElem? (i := 34) rfl))
theorem zj_62 : (.fieldLink RzL 33 "LockerRows" "time" "J" : Cond) ∈ k2_sels lw_privs ++ (tables_1_1 ++ tables_1_2) := List.mem_append_right _ (List.mem_append_left _ (List.mem_of_getElem? (i := 35) rfl))
theorem zj_63 : (.fieldLink RzL 37 "LockerRows" "alarms" "I" : Cond) ∈ k2_sels lw_privs ++ (tables_1_1 ++ tables_1_2) := List.mem_append_right _ (List.mem_append_left _ (List.mem_of_getElem? (i := 36) rfl))
theorem zj_64 : (.fieldLink RzL 40 "LockerRows" "wrongTries" "I" : Cond) ∈ k2_sels lw_privs ++ (tables_1_1 ++ tables_1_2) := List.mem_append_right _ (List.mem_append_left _ (List.mem_of_getElem? (i := 37) rfl))
theorem zj_65 : (.fieldLink RzL 43 "LockerRows" "keypadWaitsUntil" "J" : Cond) ∈ k2_sels lw_privs ++ (tables_1_1 ++ tables_1_2) := List.mem_append_right _ (List.mem_append_left _ (List.mem_of_getElem? (i := 38) rfl))
theorem zj_66 : (.laysFinal "LockerRows" "LockerRows" "boxes" "[LLockerRows$Box;" : Cond) ∈ k2_sels lw_privs ++ (tables_1_1 ++ tables_1_2) := List.mem_append_right _ (List.mem_append_left _ (List.mem_of_getElem? (i := 39) rfl))
theorem zj_67 : (.lays "LockerRows" "LockerRows" "boxCount" "I" : Cond) ∈ k2_sels lw_privs ++ (tables_1_1 ++ tables_1_2) := List.mem_append_right _ (List.mem_append_left _ (List.mem_of_getElem? (i := 41) rfl))
theorem zj_68 : (.laysFinal "LockerRows" "LockerRows" "numbers" "LLockerRows$Tape;" : Cond) ∈ k2_sels lw_privs ++ (tables_1_1 ++ tables_1_2) := List.mem_append_right _ (List.mem_append_left _ (List.mem_of_getElem? (i := 43) rfl))
theorem zj_69 : (.laysFinal "LockerRows" "LockerRows" "freedBoxes" "[I" : Cond) ∈ k2_sels lw_privs ++ (tables_1_1 ++ tables_1_2) := List.mem_append_right _ (List.mem_append_left _ (List.mem_of_getElem? (i := 45) rfl))
theorem zj_70 : (.lays "LockerRows" "LockerRows" "freedCount" "I" : Cond) ∈ k2_sels lw_privs ++ (tables_1_1 ++ tables_1_2) := List.mem_append_right _ (List.mem_append_left _ (List.mem_of_getElem? (i := 47) rfl))
theorem zj_71 : (.lays "LockerRows" "LockerRows" "time" "J" : Cond) ∈ k2_sels lw_privs ++ (tables_1_1 ++ tables_1_2) := List.mem_append_right _ (List.mem_append_left _ (List.mem_of_getElem? (i := 49) rfl))
theorem zj_72 : (.lays "LockerRows" "LockerRows" "alarms" "I" : Cond) ∈ k2_sels lw_privs ++ (tables_1_1 ++ tables_1_2) := List.mem_append_right _ (List.mem_append_left _ (List.mem_of_getElem? (i := 51) rfl))
theorem zj_73 : (.lays "LockerRows" "LockerRows" "wrongTries" "I" : Cond) ∈ k2_sels lw_privs ++ (tables_1_1 ++ tables_1_2) := List.mem_append_right _ (List.mem_append_left _ (List.mem_of_getElem? (i := 53) rfl))
theorem zj_74 : (.lays "LockerRows" "LockerRows" "keypadWaitsUntil" "J" : Cond) ∈ k2_sels lw_privs ++ (tables_1_1 ++ tables_1_2) := List.mem_append_right _ (List.mem_append_left _ (List.mem_of_getElem? (i := 55) rfl))
theorem zj_75 : (.methodLink RzW 13 yz_L_box : Cond) ∈ k2_sels lw_privs ++ (tables_1_1 ++ tables_1_2) := List.mem_append_right _ (List.mem_append_left _ (List.mem_of_getElem? (i := 58) rfl))
theorem zj_76 : (.instanceMethod yz_L_box : Cond) ∈ k2_sels lw_privs ++ (tables_1_1 ++ tables_1_2) := List.mem_append_right _ (List.mem_append_left _ (List.mem_of_getElem? (i := 59) rfl))
theorem zj_77 : (.selects RzL yz_L_box yz_L_box : Cond) ∈ k2_sels lw_privs ++ (tables_1_1 ++ tables_1_2) := List.mem_append_right _ (List.mem_append_left _ (List.mem_of_getElem? (i := 60) rfl))
theorem zj_78 : (.code yz_L_box cz_L_box 2 (some .int) : Cond) ∈ k2_sels lw_privs ++ (tables_1_1 ++ tables_1_2) := List.mem_append_right _ (List.mem_append_left _ (List.mem_of_getElem? (i := 61) rfl))
theorem zj_79 : (.methodLink RzL 46 yz_L_isSize : Cond) ∈ k2_sels lw_privs ++ (tables_1_1 ++ tables_1_2) := List.mem_append_right _ (List.mem_append_left _ (List.mem_of_getElem? (i := 62) rfl))
theorem zj_80 : (.static yz_L_isSize : Cond) ∈ k2_sels lw_privs ++ (tables_1_1 ++ tables_1_2) := List.mem_append_right _ (List.mem_append_left _ (List.mem_of_getElem? (i := 63) rfl))
theorem zj_81 : (.code yz_L_isSize cz_L_isSize 1 (some .boolean) : Cond) ∈ k2_sels lw_privs ++ (tables_1_1 ++ tables_1_2) := List.mem_append_right _ (List.mem_append_left _ (List.mem_of_getElem? (i := 64) rfl))
theorem zj_82 : (.instantiable RzB 9 : Cond) ∈ k2_sels lw_privs ++ (tables_1_1 ++ tables_1_2) := List.mem_append_right _ (List.mem_append_left _ (List.mem_of_getElem? (i := 65) rfl))
theorem zj_83 : (.instanceMethod yz_B_init : Cond) ∈ k2_sels lw_privs ++ (tables_1_1 ++ tables_1_2) := List.mem_append_right _ (List.mem_append_left _ (List.mem_of_getElem? (i := 67) rfl))
theorem zj_84 : (.code yz_B_init cz_B_init 2 (Option.none : Option Jvm.ClassFile.FieldType) : Cond) ∈ k2_sels lw_privs ++ (tables_1_1 ++ tables_1_2) := List.mem_append_right _ (List.mem_append_left _ (List.mem_of_getElem? (i := 68) rfl))
theorem zj_85 : (.methodLink RzB 3 objectInit : Cond) ∈ k2_sels lw_privs ++ (tables_1_1 ++ tables_1_2) := List.mem_append_right _ (List.mem_append_left _ (List.mem_of_getElem? (i := 69) rfl))
theorem zj_86 : (.fieldLink RzB 38 "LockerRows$Box" "size" "I" : Cond) ∈ k2_sels lw_privs ++ (tables_1_1 ++ tables_1_2) := List.mem_append_right _ (List.mem_append_left _ (List.mem_of_getElem? (i := 70) rfl))
theorem zj_87 : (.fieldLink RzB 9 "LockerRows$Box" "door" "I" : Cond) ∈ k2_sels lw_privs ++ (tables_1_1 ++ tables_1_2) := List.mem_append_right _ (List.mem_append_left _ (List.mem_of_getElem? (i := 72) rfl))
theorem zj_88 : (.fieldLink RzB 15 "LockerRows$Box" "openSince" "J" : Cond) ∈ k2_sels lw_privs ++ (tables_1_1 ++ tables_1_2) := List.mem_append_right _ (List.mem_append_left _ (List.mem_of_getElem? (i := 74) rfl))
theorem zj_89 : (.fieldLink RzB 19 "LockerRows$Box" "openingTold" "Z" : Cond) ∈ k2_sels lw_privs ++ (tables_1_1 ++ tables_1_2) := List.mem_append_right _ (List.mem_append_left _ (List.mem_of_getElem? (i := 75) rfl))
theorem zj_90 : (.fieldLink RzB 23 "LockerRows$Box" "item" "I" : Cond) ∈ k2_sels lw_privs ++ (tables_1_1 ++ tables_1_2) := List.mem_append_right _ (List.mem_append_left _ (List.mem_of_getElem? (i := 76) rfl))
theorem zj_91 : (.fieldLink RzB 26 "LockerRows$Box" "code" "I" : Cond) ∈ k2_sels lw_privs ++ (tables_1_1 ++ tables_1_2) := List.mem_append_right _ (List.mem_append_left _ (List.mem_of_getElem? (i := 78) rfl))
theorem zj_92 : (.fieldLink RzB 29 "LockerRows$Box" "liesSince" "J" : Cond) ∈ k2_sels lw_privs ++ (tables_1_1 ++ tables_1_2) := List.mem_append_right _ (List.mem_append_left _ (List.mem_of_getElem? (i := 80) rfl))
theorem zj_93 : (.fieldLink RzB 32 "LockerRows$Box" "late" "Z" : Cond) ∈ k2_sels lw_privs ++ (tables_1_1 ++ tables_1_2) := List.mem_append_right _ (List.mem_append_left _ (List.mem_of_getElem? (i := 81) rfl))
theorem zj_94 : (.fieldLink RzB 35 "LockerRows$Box" "keptUntil" "J" : Cond) ∈ k2_sels lw_privs ++ (tables_1_1 ++ tables_1_2) := List.mem_append_right _ (List.mem_append_left _ (List.mem_of_getElem? (i := 83) rfl))
theorem zj_95 : (.laysFinal "LockerRows$Box" "LockerRows$Box" "size" "I" : Cond) ∈ k2_sels lw_privs ++ (tables_1_1 ++ tables_1_2) := List.mem_append_right _ (List.mem_append_left _ (List.mem_of_getElem? (i := 85) rfl))
theorem zj_96 : (.lays "LockerRows$Box" "LockerRows$Box" "door" "I" : Cond) ∈ k2_sels lw_privs ++ (tables_1_1 ++ tables_1_2) := List.mem_append_right _ (List.mem_append_left _ (List.mem_of_getElem? (i := 87) rfl))
theorem zj_97 : (.lays "LockerRows$Box" "LockerRows$Box" "openSince" "J" : Cond) ∈ k2_sels lw_privs ++ (tables_1_1 ++ tables_1_2) := List.mem_append_right _ (List.mem_append_left _ (List.mem_of_getElem? (i := 89) rfl))
theorem zj_98 : (.lays "LockerRows$Box" "LockerRows$Box" "openingTold" "Z" : Cond) ∈ k2_sels lw_privs ++ (tables_1_1 ++ tables_1_2) := List.mem_append_right _ (List.mem_append_left _ (List.mem_of_getElem? (i := 91) rfl))
theorem zj_99 : (.lays "LockerRows$Box" "LockerRows$Box" "item" "I" : Cond) ∈ k2_sels lw_privs ++ (tables_1_1 ++ tables_1_2) := List.mem_append_right _ (List.mem_append_left _ (List.mem_of_getElem? (i := 93) rfl))
theorem zj_100 : (.lays "LockerRows$Box" "LockerRows$Box" "code" "I" : Cond) ∈ k2_sels lw_privs ++ (tables_1_1 ++ tables_1_2) := List.mem_append_right _ (List.mem_append_left _ (List.mem_of_getElem? (i := 95) rfl))
theorem zj_101 : (.lays "LockerRows$Box" "LockerRows$Box" "liesSince" "J" : Cond) ∈ k2_sels lw_privs ++ (tables_1_1 ++ tables_1_2) := List.mem_append_right _ (List.mem_append_left _ (List.mem_of_getElem? (i := 97) rfl))
theorem zj_102 : (.lays "LockerRows$Box" "LockerRows$Box" "late" "Z" : Cond) ∈ k2_sels lw_privs ++ (tables_1_1 ++ tables_1_2) := List.mem_append_right _ (List.mem_append_left _ (List.mem_of_getElem? (i := 99) rfl))
theorem zj_103 : (.lays "LockerRows$Box" "LockerRows$Box" "keptUntil" "J" : Cond) ∈ k2_sels lw_privs ++ (tables_1_1 ++ tables_1_2) := List.mem_append_right _ (List.mem_append_left _ (List.mem_of_getElem? (i := 101) rfl))
theorem zj_104 : (.methodLink RzW 18 yz_L_tape : Cond) ∈ k2_sels lw_privs ++ (tables_1_1 ++ tables_1_2) := List.mem_append_right _ (List.mem_append_left _ (List.mem_of_getElem? (i := 104) rfl))
theorem zj_105 : (.instanceMethod yz_L_tape : Cond) ∈ k2_sels lw_privs ++ (tables_1_1 ++ tables_1_2) := List.mem_append_right _ (List.mem_append_left _ (List.mem_of_getElem? (i := 105) rfl))
theorem zj_106 : (.selects RzL yz_L_tape yz_L_tape : Cond) ∈ k2_sels lw_privs ++ (tables_1_1 ++ tables_1_2) := List.mem_append_right _ (List.mem_append_left _ (List.mem_of_getElem? (i := 106) rfl))
theorem zj_107 : (.code yz_L_tape cz_L_tape 2 (some .int) : Cond) ∈ k2_sels lw_privs ++ (tables_1_1 ++ tables_1_2) := List.mem_append_right _ (List.mem_append_left _ (List.mem_of_getElem? (i := 107) rfl))
theorem zj_108 : (.methodLink RzL 53 yz_L_isCode : Cond) ∈ k2_sels lw_privs ++ (tables_1_1 ++ tables_1_2) := List.mem_append_right _ (List.mem_append_left _ (List.mem_of_getElem? (i := 108) rfl))
theorem zj_109 : (.static yz_L_isCode : Cond) ∈ k2_sels lw_privs ++ (tables_1_1 ++ tables_1_2) := List.mem_append_right _ (List.mem_append_left _ (List.mem_of_getElem? (i := 109) rfl))
theorem zj_110 : (.code yz_L_isCode cz_L_isCode 1 (some .boolean) : Cond) ∈ k2_sels lw_privs ++ (tables_1_1 ++ tables_1_2) := List.mem_append_right _ (List.mem_append_left _ (List.mem_of_getElem? (i := 110) rfl))
theorem zj_111 : (.constant RzL 144 999999 : Cond) ∈ k2_sels lw_privs ++ (tables_1_1 ++ tables_1_2) := List.mem_append_right _ (List.mem_append_left _ (List.mem_of_getElem? (i := 111) rfl))
theorem zj_112 : (.instanceMethod yz_T_append : Cond) ∈ k2_sels lw_privs ++ (tables_1_1 ++ tables_1_2) := List.mem_append_right _ (List.mem_append_left _ (List.mem_of_getElem? (i := 114) rfl))
theorem zj_113 : (.code yz_T_append cz_T_append 2 (some .boolean) : Cond) ∈ k2_sels lw_privs ++ (tables_1_1 ++ tables_1_2) := List.mem_append_right _ (List.mem_append_left _ (List.mem_of_getElem? (i := 115) rfl))
theorem zj_114 : (.instanceMethod yz_T_length : Cond) ∈ k2_sels lw_privs ++ (tables_1_1 ++ tables_1_2) := List.mem_append_right _ (List.mem_append_left _ (List.mem_of_getElem? (i := 118) rfl))
theorem zj_115 : (.code yz_T_length cz_T_length 1 (some .int) : Cond) ∈ k2_sels lw_privs ++ (tables_1_1 ++ tables_1_2) := List.mem_append_right _ (List.mem_append_left _ (List.mem_of_getElem? (i := 119) rfl))
theorem zj_116 : (.methodLink RzW 24 yz_L_reserve : Cond) ∈ k2_sels lw_privs ++ (tables_1_1 ++ tables_1_2) := List.mem_append_right _ (List.mem_append_left _ (List.mem_of_getElem? (i := 120) rfl))
theorem zj_117 : (.instanceMethod yz_L_reserve : Cond) ∈ k2_sels lw_privs ++ (tables_1_1 ++ tables_1_2) := List.mem_append_right _ (List.mem_append_left _ (List.mem_of_getElem? (i := 121) rfl))
theorem zj_118 : (.selects RzL yz_L_reserve yz_L_reserve : Cond) ∈ k2_sels lw_privs ++ (tables_1_1 ++ tables_1_2) := List.mem_append_right _ (List.mem_append_left _ (List.mem_of_getElem? (i := 122) rfl))
theorem zj_119 : (.code yz_L_reserve cz_L_reserve 6 (some .int) : Cond) ∈ k2_sels lw_privs ++ (tables_1_1 ++ tables_1_2) := List.mem_append_right _ (List.mem_append_left _ (List.mem_of_getElem? (i := 123) rfl))
theorem zj_120 : (.constantLong RzL 63 2000000000 : Cond) ∈ k2_sels lw_privs ++ (tables_1_1 ++ tables_1_2) := List.mem_append_right _ (List.mem_append_left _ (List.mem_of_getElem? (i := 124) rfl))
theorem zj_121 : (.methodLink RzL 65 yz_L_smallestUnused : Cond) ∈ k2_sels lw_privs ++ (tables_1_1 ++ tables_1_2) := List.mem_append_right _ (List.mem_append_left _ (List.mem_of_getElem? (i := 125) rfl))
theorem zj_122 : (.instanceMethod yz_L_smallestUnused : Cond) ∈ k2_sels lw_privs ++ (tables_1_1 ++ tables_1_2) := List.mem_append_right _ (List.mem_append_left _ (List.mem_of_getElem? (i := 127) rfl))
theorem zj_123 : (.code yz_L_smallestUnused cz_L_smallestUnused 6 (some .int) : Cond) ∈ k2_sels lw_privs ++ (tables_1_1 ++ tables_1_2) := List.mem_append_right _ (List.mem_append_left _ (List.mem_of_getElem? (i := 128) rfl))
theorem zj_124 : (.methodLink RzL 69 yz_L_boxAt : Cond) ∈ k2_sels lw_privs ++ (tables_1_1 ++ tables_1_2) := List.mem_append_right _ (List.mem_append_left _ (List.mem_of_getElem? (i := 129) rfl))
theorem zj_125 : (.instanceMethod yz_L_boxAt : Cond) ∈ k2_sels lw_privs ++ (tables_1_1 ++ tables_1_2) := List.mem_append_right _ (List.mem_append_left _ (List.mem_of_getElem? (i := 131) rfl))
theorem zj_126 : (.code yz_L_boxAt cz_L_boxAt 2 (some (.object "LockerRows$Box")) : Cond) ∈ k2_sels lw_privs ++ (tables_1_1 ++ tables_1_2) := List.mem_append_right _ (List.mem_append_left _ (List.mem_of_getElem? (i := 132) rfl))
theorem zj_127 : (.instanceMethod yz_B_isUnused : Cond) ∈ k2_sels lw_privs ++ (tables_1_1 ++ tables_1_2) := List.mem_append_right _ (List.mem_append_left _ (List.mem_of_getElem? (i := 135) rfl))
theorem zj_128 : (.code yz_B_isUnused cz_B_isUnused 1 (some .boolean) : Cond) ∈ k2_sels lw_privs ++ (tables_1_1 ++ tables_1_2) := List.mem_append_right _ (List.mem_append_left _ (List.mem_of_getElem? (i := 136) rfl))
theorem zj_129 : (.methodLink RzB 41 yz_B_isEmpty : Cond) ∈ k2_sels lw_privs ++ (tables_1_1 ++ tables_1_2) := List.mem_append_right _ (List.mem_append_left _ (List.mem_of_getElem? (i := 137) rfl))
theorem zj_130 : (.instanceMethod yz_B_isEmpty : Cond) ∈ k2_sels lw_privs ++ (tables_1_1 ++ tables_1_2) := List.mem_append_right _ (List.mem_append_left _ (List.mem_of_getElem? (i := 139) rfl))
theorem zj_131 : (.code yz_B_isEmpty cz_B_isEmpty 1 (some .boolean) : Cond) ∈ k2_sels lw_privs ++ (tables_1_1 ++ tables_1_2) := List.mem_append_right _ (List.mem_append_left _ (List.mem_of_getElem? (i := 140) rfl))
theorem zj_132 : (.methodLink RzW 29 yz_L_put : Cond) ∈ k2_sels lw_privs ++ (tables_1_1 ++ tables_1_2) := List.mem_append_right _ (List.mem_append_left _ (List.mem_of_getElem? (i := 141) rfl))
theorem zj_133 : (.instanceMethod yz_L_put : Cond) ∈ k2_sels lw_privs ++ (tables_1_1 ++ tables_1_2) := List.mem_append_right _ (List.mem_append_left _ (List.mem_of_getElem? (i := 142) rfl))
theorem zj_134 : (.selects RzL yz_L_put yz_L_put : Cond) ∈ k2_sels lw_privs ++ (tables_1_1 ++ tables_1_2) := List.mem_append_right _ (List.mem_append_left _ (List.mem_of_getElem? (i := 143) rfl))
theorem zj_135 : (.code yz_L_put cz_L_put 6 (some .int) : Cond) ∈ k2_sels lw_privs ++ (tables_1_1 ++ tables_1_2) := List.mem_append_right _ (List.mem_append_left _ (List.mem_of_getElem? (i := 144) rfl))
theorem zj_136 : (.methodLink RzL 76 yz_L_isItem : Cond) ∈ k2_sels lw_privs ++ (tables_1_1 ++ tables_1_2) := List.mem_append_right _ (List.mem_append_left _ (List.mem_of_getElem? (i := 145) rfl))
theorem zj_137 : (.static yz_L_isItem : Cond) ∈ k2_sels lw_privs ++ (tables_1_1 ++ tables_1_2) := List.mem_append_right _ (List.mem_append_left _ (List.mem_of_getElem? (i := 146) rfl))
theorem zj_138 : (.code yz_L_isItem cz_L_isItem 1 (some .boolean) : Cond) ∈ k2_sels lw_privs ++ (tables_1_1 ++ tables_1_2) := List.mem_append_right _ (List.mem_append_left _ (List.mem_of_getElem? (i := 147) rfl))
theorem zj_139 : (.methodLink RzL 79 yz_L_isTime : Cond) ∈ k2_sels lw_privs ++ (tables_1_1 ++ tables_1_2) := List.mem_append_right _ (List.mem_append_left _ (List.mem_of_getElem? (i := 148) rfl))
theorem zj_140 : (.instanceMethod yz_L_isTime : Cond) ∈ k2_sels lw_privs ++ (tables_1_1 ++ tables_1_2) := List.mem_append_right _ (List.mem_append_left _ (List.mem_of_getElem? (i := 150) rfl))
theorem zj_141 : (.code yz_L_isTime cz_L_isTime 3 (some .boolean) : Cond) ∈ k2_sels lw_privs ++ (tables_1_1 ++ tables_1_2) := List.mem_append_right _ (List.mem_append_left _ (List.mem_of_getElem? (i := 151) rfl))
theorem zj_142 : (.methodLink RzL 83 yz_L_passTo : Cond) ∈ k2_sels lw_privs ++ (tables_1_1 ++ tables_1_2) := List.mem_append_right _ (List.mem_append_left _ (List.mem_of_getElem? (i := 152) rfl))
theorem zj_143 : (.instanceMethod yz_L_passTo : Cond) ∈ k2_sels lw_privs ++ (tables_1_1 ++ tables_1_2) := List.mem_append_right _ (List.mem_append_left _ (List.mem_of_getElem? (i := 154) rfl))
theorem zj_144 : (.code yz_L_passTo cz_L_passTo 5 (Option.none : Option Jvm.ClassFile.FieldType) : Cond) ∈ k2_sels lw_privs ++ (tables_1_1 ++ tables_1_2) := List.mem_append_right _ (List.mem_append_left _ (List.mem_of_getElem? (i := 155) rfl))
theorem zj_145 : (.instanceMethod yz_B_freeIfDue : Cond) ∈ k2_sels lw_privs ++ (tables_1_1 ++ tables_1_2) := List.mem_append_right _ (List.mem_append_left _ (List.mem_of_getElem? (i := 158) rfl))
theorem zj_146 : (.code yz_B_freeIfDue cz_B_freeIfDue 3 (some .boolean) : Cond) ∈ k2_sels lw_privs ++ (tables_1_1 ++ tables_1_2) := List.mem_append_right _ (List.mem_append_left _ (List.mem_of_getElem? (i := 159) rfl))
theorem zj_147 : (.methodLink RzL 165 yz_L_noteFreed : Cond) ∈ k2_sels lw_privs ++ (tables_1_1 ++ tables_1_2) := List.mem_append_right _ (List.mem_append_left _ (List.mem_of_getElem? (i := 160) rfl))
theorem zj_148 : (.instanceMethod yz_L_noteFreed : Cond) ∈ k2_sels lw_privs ++ (tables_1_1 ++ tables_1_2) := List.mem_append_right _ (List.mem_append_left _ (List.mem_of_getElem? (i := 162) rfl))
theorem zj_149 : (.code yz_L_noteFreed cz_L_noteFreed 2 (Option.none : Option Jvm.ClassFile.FieldType) : Cond) ∈ k2_sels lw_privs ++ (tables_1_1 ++ tables_1_2) := List.mem_append_right _ (List.mem_append_left _ (List.mem_of_getElem? (i := 163) rfl))
theorem zj_150 : (.instanceMethod yz_B_tellAlarms : Cond) ∈ k2_sels lw_privs ++ (tables_1_1 ++ tables_1_2) := List.mem_append_right _ (List.mem_append_left _ (List.mem_of_getElem? (i := 166) rfl))
theorem zj_151 : (.code yz_B_tellAlarms cz_B_tellAlarms 4 (some .int) : Cond) ∈ k2_sels lw_privs ++ (tables_1_1 ++ tables_1_2) := List.mem_append_right _ (List.mem_append_left _ (List.mem_of_getElem? (i := 167) rfl))
theorem zj_152 : (.methodLink RzB 55 yz_B_isOpenOrForced : Cond) ∈ k2_sels lw_privs ++ (tables_1_1 ++ tables_1_2) := List.mem_append_right _ (List.mem_append_left _ (List.mem_of_getElem? (i := 168) rfl))
theorem zj_153 : (.instanceMethod yz_B_isOpenOrForced : Cond) ∈ k2_sels lw_privs ++ (tables_1_1 ++ tables_1_2) := List.mem_append_right _ (List.mem_append_left _ (List.mem_of_getElem? (i := 170) rfl))
theorem zj_154 : (.code yz_B_isOpenOrForced cz_B_isOpenOrForced 1 (some .boolean) : Cond) ∈ k2_sels lw_privs ++ (tables_1_1 ++ tables_1_2) := List.mem_append_right _ (List.mem_append_left _ (List.mem_of_getElem? (i := 171) rfl))
theorem zj_155 : (.constantLong RzB 58 120 : Cond) ∈ k2_sels lw_privs ++ (tables_1_1 ++ tables_1_2) := List.mem_append_right _ (List.mem_append_left _ (List.mem_of_getElem? (i := 172) rfl))
theorem zj_156 : (.methodLink RzB 45 yz_B_lies : Cond) ∈ k2_sels lw_privs ++ (tables_1_1 ++ tables_1_2) := List.mem_append_right _ (List.mem_append_left _ (List.mem_of_getElem? (i := 173) rfl))
theorem zj_157 : (.instanceMethod yz_B_lies : Cond) ∈ k2_sels lw_privs ++ (tables_1_1 ++ tables_1_2) := List.mem_append_right _ (List.mem_append_left _ (List.mem_of_getElem? (i := 175) rfl))
theorem zj_158 : (.code yz_B_lies cz_B_lies 1 (some .boolean) : Cond) ∈ k2_sels lw_privs ++ (tables_1_1 ++ tables_1_2) := List.mem_append_right _ (List.mem_append_left _ (List.mem_of_getElem? (i := 176) rfl))
theorem zj_159 : (.constantLong RzB 60 604800 : Cond) ∈ k2_sels lw_privs ++ (tables_1_1 ++ tables_1_2) := List.mem_append_right _ (List.mem_append_left _ (List.mem_of_getElem? (i := 177) rfl))
theorem zj_160 : (.methodLink RzL 94 yz_L_boxOfItem : Cond) ∈ k2_sels lw_privs ++ (tables_1_1 ++ tables_1_2) := List.mem_append_right _ (List.mem_append_left _ (List.mem_of_getElem? (i := 179) rfl))
theorem zj_161 : (.instanceMethod yz_L_boxOfItem : Cond) ∈ k2_sels lw_privs ++ (tables_1_1 ++ tables_1_2) := List.mem_append_right _ (List.mem_append_left _ (List.mem_of_getElem? (i := 181) rfl))
theorem zj_162 : (.code yz_L_boxOfItem cz_L_boxOfItem 4 (some (.object "LockerRows$Box")) : Cond) ∈ k2_sels lw_privs ++ (tables_1_1 ++ tables_1_2) := List.mem_append_right _ (List.mem_append_left _ (List.mem_of_getElem? (i := 182) rfl))
theorem zj_163 : (.instanceMethod yz_B_receive : Cond) ∈ k2_sels lw_privs ++ (tables_1_1 ++ tables_1_2) := List.mem_append_right _ (List.mem_append_left _ (List.mem_of_getElem? (i := 185) rfl))
theorem zj_164 : (.code yz_B_receive cz_B_receive 2 (Option.none : Option Jvm.ClassFile.FieldType) : Cond) ∈ k2_sels lw_privs ++ (tables_1_1 ++ tables_1_2) := List.mem_append_right _ (List.mem_append_left _ (List.mem_of_getElem? (i := 186) rfl))
theorem zj_165 : (.methodLink RzW 34 yz_L_close : Cond) ∈ k2_sels lw_privs ++ (tables_1_1 ++ tables_1_2) := List.mem_append_right _ (List.mem_append_left _ (List.mem_of_getElem? (i := 187) rfl))
theorem zj_166 : (.instanceMethod yz_L_close : Cond) ∈ k2_sels lw_privs ++ (tables_1_1 ++ tables_1_2) := List.mem_append_right _ (List.mem_append_left _ (List.mem_of_getElem? (i := 188) rfl))
theorem zj_167 : (.selects RzL yz_L_close yz_L_close : Cond) ∈ k2_sels lw_privs ++ (tables_1_1 ++ tables_1_2) := List.mem_append_right _ (List.mem_append_left _ (List.mem_of_getElem? (i := 189) rfl))
theorem zj_168 : (.code yz_L_close cz_L_close 6 (some .int) : Cond) ∈ k2_sels lw_privs ++ (tables_1_1 ++ tables_1_2) := List.mem_append_right _ (List.mem_append_left _ (List.mem_of_getElem? (i := 190) rfl))
theorem zj_169 : (.instanceMethod yz_B_wantsCode : Cond) ∈ k2_sels lw_privs ++ (tables_1_1 ++ tables_1_2) := List.mem_append_right _ (List.mem_append_left _ (List.mem_of_getElem? (i := 193) rfl))
theorem zj_170 : (.code yz_B_wantsCode cz_B_wantsCode 1 (some .boolean) : Cond) ∈ k2_sels lw_privs ++ (tables_1_1 ++ tables_1_2) := List.mem_append_right _ (List.mem_append_left _ (List.mem_of_getElem? (i := 194) rfl))
theorem zj_171 : (.methodLink RzL 103 yz_L_wantedCode : Cond) ∈ k2_sels lw_privs ++ (tables_1_1 ++ tables_1_2) := List.mem_append_right _ (List.mem_append_left _ (List.mem_of_getElem? (i := 195) rfl))
theorem zj_172 : (.instanceMethod yz_L_wantedCode : Cond) ∈ k2_sels lw_privs ++ (tables_1_1 ++ tables_1_2) := List.mem_append_right _ (List.mem_append_left _ (List.mem_of_getElem? (i := 197) rfl))
theorem zj_173 : (.code yz_L_wantedCode cz_L_wantedCode 3 (some .int) : Cond) ∈ k2_sels lw_privs ++ (tables_1_1 ++ tables_1_2) := List.mem_append_right _ (List.mem_append_left _ (List.mem_of_getElem? (i := 198) rfl))
theorem zj_174 : (.instanceMethod yz_T_at : Cond) ∈ k2_sels lw_privs ++ (tables_1_1 ++ tables_1_2) := List.mem_append_right _ (List.mem_append_left _ (List.mem_of_getElem? (i := 201) rfl))
theorem zj_175 : (.code yz_T_at cz_T_at 2 (some .int) : Cond) ∈ k2_sels lw_privs ++ (tables_1_1 ++ tables_1_2) := List.mem_append_right _ (List.mem_append_left _ (List.mem_of_getElem? (i := 202) rfl))
theorem zj_176 : (.methodLink RzL 110 yz_L_boxNumberOfCode : Cond) ∈ k2_sels lw_privs ++ (tables_1_1 ++ tables_1_2) := List.mem_append_right _ (List.mem_append_left _ (List.mem_of_getElem? (i := 203) rfl))
theorem zj_177 : (.instanceMethod yz_L_boxNumberOfCode : Cond) ∈ k2_sels lw_privs ++ (tables_1_1 ++ tables_1_2) := List.mem_append_right _ (List.mem_append_left _ (List.mem_of_getElem? (i := 205) rfl))
theorem zj_178 : (.code yz_L_boxNumberOfCode cz_L_boxNumberOfCode 4 (some .int) : Cond) ∈ k2_sels lw_privs ++ (tables_1_1 ++ tables_1_2) := List.mem_append_right _ (List.mem_append_left _ (List.mem_of_getElem? (i := 206) rfl))
theorem zj_179 : (.instanceMethod yz_T_dropFirst : Cond) ∈ k2_sels lw_privs ++ (tables_1_1 ++ tables_1_2) := List.mem_append_right _ (List.mem_append_left _ (List.mem_of_getElem? (i := 210) rfl))
theorem zj_180 : (.code yz_T_dropFirst cz_T_dropFirst 2 (Option.none : Option Jvm.ClassFile.FieldType) : Cond) ∈ k2_sels lw_privs ++ (tables_1_1 ++ tables_1_2) := List.mem_append_right _ (List.mem_append_left _ (List.mem_of_getElem? (i := 211) rfl))
theorem zj_181 : (.methodLink RzT 19 arraycopyName : Cond) ∈ k2_sels lw_privs ++ (tables_1_1 ++ tables_1_2) := List.mem_append_right _ (List.mem_append_left _ (List.mem_of_getElem? (i := 212) rfl))
theorem zj_182 : (.static arraycopyName : Cond) ∈ k2_sels lw_privs ++ (tables_1_1 ++ tables_1_2) := List.mem_append_right _ (List.mem_append_left _ (List.mem_of_getElem? (i := 213) rfl))
theorem zj_183 : (.native arraycopyName : Cond) ∈ k2_sels lw_privs ++ (tables_1_1 ++ tables_1_2) := List.mem_append_right _ (List.mem_append_left _ (List.mem_of_getElem? (i := 214) rfl))
theorem zj_184 : (.instanceMethod yz_B_layDown : Cond) ∈ k2_sels lw_privs ++ (tables_1_1 ++ tables_1_2) := List.mem_append_right _ (List.mem_append_left _ (List.mem_of_getElem? (i := 217) rfl))
theorem zj_185 : (.code yz_B_layDown cz_B_layDown 4 (Option.none : Option Jvm.ClassFile.FieldType) : Cond) ∈ k2_sels lw_privs ++ (tables_1_1 ++ tables_1_2) := List.mem_append_right _ (List.mem_append_left _ (List.mem_of_getElem? (i := 218) rfl))
theorem zj_186 : (.methodLink RzW 38 yz_L_type : Cond) ∈ k2_sels lw_privs ++ (tables_1_1 ++ tables_1_2) := List.mem_append_right _ (List.mem_append_left _ (List.mem_of_getElem? (i := 219) rfl))
theorem zj_187 : (.instanceMethod yz_L_type : Cond) ∈ k2_sels lw_privs ++ (tables_1_1 ++ tables_1_2) := List.mem_append_right _ (List.mem_append_left _ (List.mem_of_getElem? (i := 220) rfl))
theorem zj_188 : (.selects RzL yz_L_type yz_L_type : Cond) ∈ k2_sels lw_privs ++ (tables_1_1 ++ tables_1_2) := List.mem_append_right _ (List.mem_append_left _ (List.mem_of_getElem? (i := 221) rfl))
theorem zj_189 : (.code yz_L_type cz_L_type 6 (some .int) : Cond) ∈ k2_sels lw_privs ++ (tables_1_1 ++ tables_1_2) := List.mem_append_right _ (List.mem_append_left _ (List.mem_of_getElem? (i := 222) rfl))
theorem zj_190 : (.methodLink RzL 113 yz_L_countWrongTry : Cond) ∈ k2_sels lw_privs ++ (tables_1_1 ++ tables_1_2) := List.mem_append_right _ (List.mem_append_left _ (List.mem_of_getElem? (i := 223) rfl))
theorem zj_191 : (.instanceMethod yz_L_countWrongTry : Cond) ∈ k2_sels lw_privs ++ (tables_1_1 ++ tables_1_2) := List.mem_append_right _ (List.mem_append_left _ (List.mem_of_getElem? (i := 225) rfl))
theorem zj_192 : (.code yz_L_countWrongTry cz_L_countWrongTry 3 (Option.none : Option Jvm.ClassFile.FieldType) : Cond) ∈ k2_sels lw_privs ++ (tables_1_1 ++ tables_1_2) := List.mem_append_right _ (List.mem_append_left _ (List.mem_of_getElem? (i := 226) rfl))
theorem zj_193 : (.constantLong RzL 160 300 : Cond) ∈ k2_sels lw_privs ++ (tables_1_1 ++ tables_1_2) := List.mem_append_right _ (List.mem_append_left _ (List.mem_of_getElem? (i := 227) rfl))
theorem zj_194 : (.instanceMethod yz_B_clear : Cond) ∈ k2_sels lw_privs ++ (tables_1_1 ++ tables_1_2) := List.mem_append_right _ (List.mem_append_left _ (List.mem_of_getElem? (i := 230) rfl))
theorem zj_195 : (.code yz_B_clear cz_B_clear 1 (Option.none : Option Jvm.ClassFile.FieldType) : Cond) ∈ k2_sels lw_privs ++ (tables_1_1 ++ tables_1_2) := List.mem_append_right _ (List.mem_append_left _ (List.mem_of_getElem? (i := 231) rfl))
theorem zj_196 : (.instanceMethod yz_B_beginOpening : Cond) ∈ k2_sels lw_privs ++ (tables_1_1 ++ tables_1_2) := List.mem_append_right _ (List.mem_append_left _ (List.mem_of_getElem? (i := 234) rfl))
theorem zj_197 : (.code yz_B_beginOpening cz_B_beginOpening 4 (Option.none : Option Jvm.ClassFile.FieldType) : Cond) ∈ k2_sels lw_privs ++ (tables_1_1 ++ tables_1_2) := List.mem_append_right _ (List.mem_append_left _ (List.mem_of_getElem? (i := 235) rfl))
theorem zj_198 : (.methodLink RzW 42 yz_L_code : Cond) ∈ k2_sels lw_privs ++ (tables_1_1 ++ tables_1_2) := List.mem_append_right _ (List.mem_append_left _ (List.mem_of_getElem? (i := 236) rfl))
theorem zj_199 : (.instanceMethod yz_L_code : Cond) ∈ k2_sels lw_privs ++ (tables_1_1 ++ tables_1_2) := List.mem_append_right _ (List.mem_append_left _ (List.mem_of_getElem? (i := 237) rfl))
theorem zj_200 : (.selects RzL yz_L_code yz_L_code : Cond) ∈ k2_sels lw_privs ++ (tables_1_1 ++ tables_1_2) := List.mem_append_right _ (List.mem_append_left _ (List.mem_of_getElem? (i := 238) rfl))
theorem zj_201 : (.code yz_L_code cz_L_code 3 (some .int) : Cond) ∈ k2_sels lw_privs ++ (tables_1_1 ++ tables_1_2) := List.mem_append_right _ (List.mem_append_left _ (List.mem_of_getElem? (i := 239) rfl))
theorem zj_202 : (.methodLink RzW 46 yz_L_door : Cond) ∈ k2_sels lw_privs ++ (tables_1_1 ++ tables_1_2) := List.mem_append_right _ (List.mem_append_right _ (List.mem_of_getElem? (i := 0) rfl))
theorem zj_203 : (.instanceMethod yz_L_door : Cond) ∈ k2_sels lw_privs ++ (tables_1_1 ++ tables_1_2) := List.mem_append_right _ (List.mem_append_right _ (List.mem_of_getElem? (i := 1) rfl))
theorem zj_204 : (.selects RzL yz_L_door yz_L_door : Cond) ∈ k2_sels lw_privs ++ (tables_1_1 ++ tables_1_2) := List.mem_append_right _ (List.mem_append_right _ (List.mem_of_getElem? (i := 2) rfl))
theorem zj_205 : (.code yz_L_door cz_L_door 6 (some .int) : Cond) ∈ k2_sels lw_privs ++ (tables_1_1 ++ tables_1_2) := List.mem_append_right _ (List.mem_append_right _ (List.mem_of_getElem? (i := 3) rfl))
theorem zj_206 : (.static yz_B_isEvent : Cond) ∈ k2_sels lw_privs ++ (tables_1_1 ++ tables_1_2) := List.mem_append_right _ (List.mem_append_right _ (List.mem_of_getElem? (i := 5) rfl))
theorem zj_207 : (.code yz_B_isEvent cz_B_isEvent 1 (some .boolean) : Cond) ∈ k2_sels lw_privs ++ (tables_1_1 ++ tables_1_2) := List.mem_append_right _ (List.mem_append_right _ (List.mem_of_getElem? (i := 6) rfl))
theorem zj_208 : (.instanceMethod yz_B_admits : Cond) ∈ k2_sels lw_privs ++ (tables_1_1 ++ tables_1_2) := List.mem_append_right _ (List.mem_append_right _ (List.mem_of_getElem? (i := 9) rfl))
theorem zj_209 : (.code yz_B_admits cz_B_admits 2 (some .boolean) : Cond) ∈ k2_sels lw_privs ++ (tables_1_1 ++ tables_1_2) := List.mem_append_right _ (List.mem_append_right _ (List.mem_of_getElem? (i := 10) rfl))
theorem zj_210 : (.methodLink RzB 48 yz_B_isUnused : Cond) ∈ k2_sels lw_privs ++ (tables_1_1 ++ tables_1_2) := List.mem_append_right _ (List.mem_append_right _ (List.mem_of_getElem? (i := 11) rfl))
theorem zj_211 : (.instanceMethod yz_B_undergo : Cond) ∈ k2_sels lw_privs ++ (tables_1_1 ++ tables_1_2) := List.mem_append_right _ (List.mem_append_right _ (List.mem_of_getElem? (i := 14) rfl))
theorem zj_212 : (.code yz_B_undergo cz_B_undergo 4 (Option.none : Option Jvm.ClassFile.FieldType) : Cond) ∈ k2_sels lw_privs ++ (tables_1_1 ++ tables_1_2) := List.mem_append_right _ (List.mem_append_right _ (List.mem_of_getElem? (i := 15) rfl))
theorem zj_213 : (.methodLink RzB 51 yz_B_beginOpening : Cond) ∈ k2_sels lw_privs ++ (tables_1_1 ++ tables_1_2) := List.mem_append_right _ (List.mem_append_right _ (List.mem_of_getElem? (i := 16) rfl))
theorem zj_214 : (.methodLink RzW 50 yz_L_tick : Cond) ∈ k2_sels lw_privs ++ (tables_1_1 ++ tables_1_2) := List.mem_append_right _ (List.mem_append_right _ (List.mem_of_getElem? (i := 17) rfl))
theorem zj_215 : (.instanceMethod yz_L_tick : Cond) ∈ k2_sels lw_privs ++ (tables_1_1 ++ tables_1_2) := List.mem_append_right _ (List.mem_append_right _ (List.mem_of_getElem? (i := 18) rfl))
theorem zj_216 : (.selects RzL yz_L_tick yz_L_tick : Cond) ∈ k2_sels lw_privs ++ (tables_1_1 ++ tables_1_2) := List.mem_append_right _ (List.mem_append_right _ (List.mem_of_getElem? (i := 19) rfl))
theorem zj_217 : (.code yz_L_tick cz_L_tick 4 (some .int) : Cond) ∈ k2_sels lw_privs ++ (tables_1_1 ++ tables_1_2) := List.mem_append_right _ (List.mem_append_right _ (List.mem_of_getElem? (i := 20) rfl))
theorem zj_218 : (.methodLink RzW 55 yz_L_take : Cond) ∈ k2_sels lw_privs ++ (tables_1_1 ++ tables_1_2) := List.mem_append_right _ (List.mem_append_right _ (List.mem_of_getElem? (i := 21) rfl))
theorem zj_219 : (.instanceMethod yz_L_take : Cond) ∈ k2_sels lw_privs ++ (tables_1_1 ++ tables_1_2) := List.mem_append_right _ (List.mem_append_right _ (List.mem_of_getElem? (i := 22) rfl))
theorem zj_220 : (.selects RzL yz_L_take yz_L_take : Cond) ∈ k2_sels lw_privs ++ (tables_1_1 ++ tables_1_2) := List.mem_append_right _ (List.mem_append_right _ (List.mem_of_getElem? (i := 23) rfl))
theorem zj_221 : (.code yz_L_take cz_L_take 5 (some .int) : Cond) ∈ k2_sels lw_privs ++ (tables_1_1 ++ tables_1_2) := List.mem_append_right _ (List.mem_append_right _ (List.mem_of_getElem? (i := 24) rfl))
theorem zj_222 : (.methodLink RzW 60 yz_L_item : Cond) ∈ k2_sels lw_privs ++ (tables_1_1 ++ tables_1_2) := List.mem_append_right _ (List.mem_append_right _ (List.mem_of_getElem? (i := 26) rfl))
theorem zj_223 : (.instanceMethod yz_L_item : Cond) ∈ k2_sels lw_privs ++ (tables_1_1 ++ tables_1_2) := List.mem_append_right _ (List.mem_append_right _ (List.mem_of_getElem? (i := 27) rfl))
theorem zj_224 : (.selects RzL yz_L_item yz_L_item : Cond) ∈ k2_sels lw_privs ++ (tables_1_1 ++ tables_1_2) := List.mem_append_right _ (List.mem_append_right _ (List.mem_of_getElem? (i := 28) rfl))
theorem zj_225 : (.code yz_L_item cz_L_item 3 (some .int) : Cond) ∈ k2_sels lw_privs ++ (tables_1_1 ++ tables_1_2) := List.mem_append_right _ (List.mem_append_right _ (List.mem_of_getElem? (i := 29) rfl))
theorem zj_226 : (.methodLink RzW 64 yz_L_freed : Cond) ∈ k2_sels lw_privs ++ (tables_1_1 ++ tables_1_2) := List.mem_append_right _ (List.mem_append_right _ (List.mem_of_getElem? (i := 30) rfl))
theorem zj_227 : (.instanceMethod yz_L_freed : Cond) ∈ k2_sels lw_privs ++ (tables_1_1 ++ tables_1_2) := List.mem_append_right _ (List.mem_append_right _ (List.mem_of_getElem? (i := 31) rfl))
theorem zj_228 : (.selects RzL yz_L_freed yz_L_freed : Cond) ∈ k2_sels lw_privs ++ (tables_1_1 ++ tables_1_2) := List.mem_append_right _ (List.mem_append_right _ (List.mem_of_getElem? (i := 32) rfl))
theorem zj_229 : (.code yz_L_freed cz_L_freed 2 (some .int) : Cond) ∈ k2_sels lw_privs ++ (tables_1_1 ++ tables_1_2) := List.mem_append_right _ (List.mem_append_right _ (List.mem_of_getElem? (i := 33) rfl))
theorem zj_230 : (.classLink RzW 10 RzM : Cond) ∈ k2_sels lw_privs ++ (tables_1_1 ++ tables_1_2) := List.mem_append_right _ (List.mem_append_right _ (List.mem_of_getElem? (i := 34) rfl))
theorem zj_231 : (.instantiable RzM 18 : Cond) ∈ k2_sels lw_privs ++ (tables_1_1 ++ tables_1_2) := List.mem_append_right _ (List.mem_append_right _ (List.mem_of_getElem? (i := 35) rfl))
theorem zj_232 : (.methodLink RzW 12 yz_M_init : Cond) ∈ k2_sels lw_privs ++ (tables_1_1 ++ tables_1_2) := List.mem_append_right _ (List.mem_append_right _ (List.mem_of_getElem? (i := 36) rfl))
theorem zj_233 : (.instanceMethod yz_M_init : Cond) ∈ k2_sels lw_privs ++ (tables_1_1 ++ tables_1_2) := List.mem_append_right _ (List.mem_append_right _ (List.mem_of_getElem? (i := 37) rfl))
theorem zj_234 : (.code yz_M_init cz_M_init 1 (Option.none : Option Jvm.ClassFile.FieldType) : Cond) ∈ k2_sels lw_privs ++ (tables_1_1 ++ tables_1_2) := List.mem_append_right _ (List.mem_append_right _ (List.mem_of_getElem? (i := 38) rfl))
theorem zj_235 : (.methodLink RzM 1 objectInit : Cond) ∈ k2_sels lw_privs ++ (tables_1_1 ++ tables_1_2) := List.mem_append_right _ (List.mem_append_right _ (List.mem_of_getElem? (i := 39) rfl))
theorem zj_236 : (.fieldLink RzM 45 "LockerRowsModel" "boxes" "I" : Cond) ∈ k2_sels lw_privs ++ (tables_1_1 ++ tables_1_2) := List.mem_append_right _ (List.mem_append_right _ (List.mem_of_getElem? (i := 40) rfl))
theorem zj_237 : (.fieldLink RzM 7 "LockerRowsModel" "sizes" "[I" : Cond) ∈ k2_sels lw_privs ++ (tables_1_1 ++ tables_1_2) := List.mem_append_right _ (List.mem_append_right _ (List.mem_of_getElem? (i := 41) rfl))
theorem zj_238 : (.fieldLink RzM 13 "LockerRowsModel" "doors" "[I" : Cond) ∈ k2_sels lw_privs ++ (tables_1_1 ++ tables_1_2) := List.mem_append_right _ (List.mem_append_right _ (List.mem_of_getElem? (i := 42) rfl))
theorem zj_239 : (.fieldLink RzM 16 "LockerRowsModel" "since" "[J" : Cond) ∈ k2_sels lw_privs ++ (tables_1_1 ++ tables_1_2) := List.mem_append_right _ (List.mem_append_right _ (List.mem_of_getElem? (i := 43) rfl))
theorem zj_240 : (.fieldLink RzM 20 "LockerRowsModel" "told" "[Z" : Cond) ∈ k2_sels lw_privs ++ (tables_1_1 ++ tables_1_2) := List.mem_append_right _ (List.mem_append_right _ (List.mem_of_getElem? (i := 44) rfl))
theorem zj_241 : (.fieldLink RzM 24 "LockerRowsModel" "items" "[I" : Cond) ∈ k2_sels lw_privs ++ (tables_1_1 ++ tables_1_2) := List.mem_append_right _ (List.mem_append_right _ (List.mem_of_getElem? (i := 45) rfl))
theorem zj_242 : (.fieldLink RzM 27 "LockerRowsModel" "codes" "[I" : Cond) ∈ k2_sels lw_privs ++ (tables_1_1 ++ tables_1_2) := List.mem_append_right _ (List.mem_append_right _ (List.mem_of_getElem? (i := 46) rfl))
theorem zj_243 : (.fieldLink RzM 30 "LockerRowsModel" "lies" "[J" : Cond) ∈ k2_sels lw_privs ++ (tables_1_1 ++ tables_1_2) := List.mem_append_right _ (List.mem_append_right _ (List.mem_of_getElem? (i := 47) rfl))
theorem zj_244 : (.fieldLink RzM 33 "LockerRowsModel" "late" "[Z" : Cond) ∈ k2_sels lw_privs ++ (tables_1_1 ++ tables_1_2) := List.mem_append_right _ (List.mem_append_right _ (List.mem_of_getElem? (i := 48) rfl))
theorem zj_245 : (.fieldLink RzM 36 "LockerRowsModel" "kept" "[J" : Cond) ∈ k2_sels lw_privs ++ (tables_1_1 ++ tables_1_2) := List.mem_append_right _ (List.mem_append_right _ (List.mem_of_getElem? (i := 49) rfl))
theorem zj_246 : (.fieldLink RzM 60 "LockerRowsModel" "time" "J" : Cond) ∈ k2_sels lw_privs ++ (tables_1_1 ++ tables_1_2) := List.mem_append_right _ (List.mem_append_right _ (List.mem_of_getElem? (i := 50) rfl))
theorem zj_247 : (.fieldLink RzM 71 "LockerRowsModel" "alarms" "I" : Cond) ∈ k2_sels lw_privs ++ (tables_1_1 ++ tables_1_2) := List.mem_append_right _ (List.mem_append_right _ (List.mem_of_getElem? (i := 51) rfl))
theorem zj_248 : (.fieldLink RzM 104 "LockerRowsModel" "wrong" "I" : Cond) ∈ k2_sels lw_privs ++ (tables_1_1 ++ tables_1_2) := List.mem_append_right _ (List.mem_append_right _ (List.mem_of_getElem? (i := 52) rfl))
theorem zj_249 : (.fieldLink RzM 93 "LockerRowsModel" "waits" "J" : Cond) ∈ k2_sels lw_privs ++ (tables_1_1 ++ tables_1_2) := List.mem_append_right _ (List.mem_append_right _ (List.mem_of_getElem? (i := 53) rfl))
theorem zj_250 : (.fieldLink RzM 57 "LockerRowsModel" "taped" "I" : Cond) ∈ k2_sels lw_privs ++ (tables_1_1 ++ tables_1_2) := List.mem_append_right _ (List.mem_append_right _ (List.mem_of_getElem? (i := 54) rfl))
theorem zj_251 : (.fieldLink RzM 39 "LockerRowsModel" "tape" "[I" : Cond) ∈ k2_sels lw_privs ++ (tables_1_1 ++ tables_1_2) := List.mem_append_right _ (List.mem_append_right _ (List.mem_of_getElem? (i := 55) rfl))
theorem zj_252 : (.fieldLink RzM 66 "LockerRowsModel" "freed" "I" : Cond) ∈ k2_sels lw_privs ++ (tables_1_1 ++ tables_1_2) := List.mem_append_right _ (List.mem_append_right _ (List.mem_of_getElem? (i := 56) rfl))
theorem zj_253 : (.fieldLink RzM 42 "LockerRowsModel" "free" "[I" : Cond) ∈ k2_sels lw_privs ++ (tables_1_1 ++ tables_1_2) := List.mem_append_right _ (List.mem_append_right _ (List.mem_of_getElem? (i := 57) rfl))
theorem zj_254 : (.lays "LockerRowsModel" "LockerRowsModel" "boxes" "I" : Cond) ∈ k2_sels lw_privs ++ (tables_1_1 ++ tables_1_2) := List.mem_append_right _ (List.mem_append_right _ (List.mem_of_getElem? (i := 58) rfl))
theorem zj_255 : (.laysFinal "LockerRowsModel" "LockerRowsModel" "sizes" "[I" : Cond) ∈ k2_sels lw_privs ++ (tables_1_1 ++ tables_1_2) := List.mem_append_right _ (List.mem_append_right _ (List.mem_of_getElem? (i := 60) rfl))
theorem zj_256 : (.laysFinal "LockerRowsModel" "LockerRowsModel" "doors" "[I" : Cond) ∈ k2_sels lw_privs ++ (tables_1_1 ++ tables_1_2) := List.mem_append_right _ (List.mem_append_right _ (List.mem_of_getElem? (i := 62) rfl))
theorem zj_257 : (.laysFinal "LockerRowsModel" "LockerRowsModel" "since" "[J" : Cond) ∈ k2_sels lw_privs ++ (tables_1_1 ++ tables_1_2) := List.mem_append_right _ (List.mem_append_right _ (List.mem_of_getElem? (i := 64) rfl))
theorem zj_258 : (.laysFinal "LockerRowsModel" "LockerRowsModel" "told" "[Z" : Cond) ∈ k2_sels lw_privs ++ (tables_1_1 ++ tables_1_2) := List.mem_append_right _ (List.mem_append_right _ (List.mem_of_getElem? (i := 66) rfl))
theorem zj_259 : (.laysFinal "LockerRowsModel" "LockerRowsModel" "items" "[I" : Cond) ∈ k2_sels lw_privs ++ (tables_1_1 ++ tables_1_2) := List.mem_append_right _ (List.mem_append_right _ (List.mem_of_getElem? (i := 68) rfl))
theorem zj_260 : (.laysFinal "LockerRowsModel" "LockerRowsModel" "codes" "[I" : Cond) ∈ k2_sels lw_privs ++ (tables_1_1 ++ tables_1_2) := List.mem_append_right _ (List.mem_append_right _ (List.mem_of_getElem? (i := 70) rfl))
theorem zj_261 : (.laysFinal "LockerRowsModel" "LockerRowsModel" "lies" "[J" : Cond) ∈ k2_sels lw_privs ++ (tables_1_1 ++ tables_1_2) := List.mem_append_right _ (List.mem_append_right _ (List.mem_of_getElem? (i := 72) rfl))
theorem zj_262 : (.laysFinal "LockerRowsModel" "LockerRowsModel" "late" "[Z" : Cond) ∈ k2_sels lw_privs ++ (tables_1_1 ++ tables_1_2) := List.mem_append_right _ (List.mem_append_right _ (List.mem_of_getElem? (i := 74) rfl))
theorem zj_263 : (.laysFinal "LockerRowsModel" "LockerRowsModel" "kept" "[J" : Cond) ∈ k2_sels lw_privs ++ (tables_1_1 ++ tables_1_2) := List.mem_append_right _ (List.mem_append_right _ (List.mem_of_getElem? (i := 76) rfl))
theorem zj_264 : (.lays "LockerRowsModel" "LockerRowsModel" "time" "J" : Cond) ∈ k2_sels lw_privs ++ (tables_1_1 ++ tables_1_2) := List.mem_append_right _ (List.mem_append_right _ (List.mem_of_getElem? (i := 78) rfl))
theorem zj_265 : (.lays "LockerRowsModel" "LockerRowsModel" "alarms" "I" : Cond) ∈ k2_sels lw_privs ++ (tables_1_1 ++ tables_1_2) := List.mem_append_right _ (List.mem_append_right _ (List.mem_of_getElem? (i := 80) rfl))
theorem zj_266 : (.lays "LockerRowsModel" "LockerRowsModel" "wrong" "I" : Cond) ∈ k2_sels lw_privs ++ (tables_1_1 ++ tables_1_2) := List.mem_append_right _ (List.mem_append_right _ (List.mem_of_getElem? (i := 82) rfl))
theorem zj_267 : (.lays "LockerRowsModel" "LockerRowsModel" "waits" "J" : Cond) ∈ k2_sels lw_privs ++ (tables_1_1 ++ tables_1_2) := List.mem_append_right _ (List.mem_append_right _ (List.mem_of_getElem? (i := 84) rfl))
theorem zj_268 : (.lays "LockerRowsModel" "LockerRowsModel" "taped" "I" : Cond) ∈ k2_sels lw_privs ++ (tables_1_1 ++ tables_1_2) := List.mem_append_right _ (List.mem_append_right _ (List.mem_of_getElem? (i := 86) rfl))
theorem zj_269 : (.laysFinal "LockerRowsModel" "LockerRowsModel" "tape" "[I" : Cond) ∈ k2_sels lw_privs ++ (tables_1_1 ++ tables_1_2) := List.mem_append_right _ (List.mem_append_right _ (List.mem_of_getElem? (i := 88) rfl))
theorem zj_270 : (.lays "LockerRowsModel" "LockerRowsModel" "freed" "I" : Cond) ∈ k2_sels lw_privs ++ (tables_1_1 ++ tables_1_2) := List.mem_append_right _ (List.mem_append_right _ (List.mem_of_getElem? (i := 90) rfl))
theorem zj_271 : (.laysFinal "LockerRowsModel" "LockerRowsModel" "free" "[I" : Cond) ∈ k2_sels lw_privs ++ (tables_1_1 ++ tables_1_2) := List.mem_append_right _ (List.mem_append_right _ (List.mem_of_getElem? (i := 92) rfl))
theorem zj_272 : (.arrayClass .long : Cond) ∈ k2_sels lw_privs ++ (tables_1_1 ++ tables_1_2) := List.mem_append_right _ (List.mem_append_right _ (List.mem_of_getElem? (i := 95) rfl))
theorem zj_273 : (.arrayClass .boolean : Cond) ∈ k2_sels lw_privs ++ (tables_1_1 ++ tables_1_2) := List.mem_append_right _ (List.mem_append_right _ (List.mem_of_getElem? (i := 96) rfl))
theorem zj_274 : (.methodLink RzW 17 yz_M_box : Cond) ∈ k2_sels lw_privs ++ (tables_1_1 ++ tables_1_2) := List.mem_append_right _ (List.mem_append_right _ (List.mem_of_getElem? (i := 97) rfl))
theorem zj_275 : (.instanceMethod yz_M_box : Cond) ∈ k2_sels lw_privs ++ (tables_1_1 ++ tables_1_2) := List.mem_append_right _ (List.mem_append_right _ (List.mem_of_getElem? (i := 98) rfl))
theorem zj_276 : (.selects RzM yz_M_box yz_M_box : Cond) ∈ k2_sels lw_privs ++ (tables_1_1 ++ tables_1_2) := List.mem_append_right _ (List.mem_append_right _ (List.mem_of_getElem? (i := 99) rfl))
theorem zj_277 : (.code yz_M_box cz_M_box 2 (some .int) : Cond) ∈ k2_sels lw_privs ++ (tables_1_1 ++ tables_1_2) := List.mem_append_right _ (List.mem_append_right _ (List.mem_of_getElem? (i := 100) rfl))
theorem zj_278 : (.constantLong RzM 53 5 : Cond) ∈ k2_sels lw_privs ++ (tables_1_1 ++ tables_1_2) := List.mem_append_right _ (List.mem_append_right _ (List.mem_of_getElem? (i := 101) rfl))
theorem zj_279 : (.methodLink RzM 49 yz_M_within : Cond) ∈ k2_sels lw_privs ++ (tables_1_1 ++ tables_1_2) := List.mem_append_right _ (List.mem_append_right _ (List.mem_of_getElem? (i := 102) rfl))
theorem zj_280 : (.static yz_M_within : Cond) ∈ k2_sels lw_privs ++ (tables_1_1 ++ tables_1_2) := List.mem_append_right _ (List.mem_append_right _ (List.mem_of_getElem? (i := 103) rfl))
theorem zj_281 : (.code yz_M_within cz_M_within 6 (some .boolean) : Cond) ∈ k2_sels lw_privs ++ (tables_1_1 ++ tables_1_2) := List.mem_append_right _ (List.mem_append_right _ (List.mem_of_getElem? (i := 104) rfl))
theorem zj_282 : (.methodLink RzW 21 yz_M_tape : Cond) ∈ k2_sels lw_privs ++ (tables_1_1 ++ tables_1_2) := List.mem_append_right _ (List.mem_append_right _ (List.mem_of_getElem? (i := 105) rfl))
theorem zj_283 : (.instanceMethod yz_M_tape : Cond) ∈ k2_sels lw_privs ++ (tables_1_1 ++ tables_1_2) := List.mem_append_right _ (List.mem_append_right _ (List.mem_of_getElem? (i := 106) rfl))
theorem zj_284 : (.selects RzM yz_M_tape yz_M_tape : Cond) ∈ k2_sels lw_privs ++ (tables_1_1 ++ tables_1_2) := List.mem_append_right _ (List.mem_append_right _ (List.mem_of_getElem? (i := 107) rfl))
theorem zj_285 : (.code yz_M_tape cz_M_tape 2 (some .int) : Cond) ∈ k2_sels lw_privs ++ (tables_1_1 ++ tables_1_2) := List.mem_append_right _ (List.mem_append_right _ (List.mem_of_getElem? (i := 108) rfl))
theorem zj_286 : (.constantLong RzM 55 999999 : Cond) ∈ k2_sels lw_privs ++ (tables_1_1 ++ tables_1_2) := List.mem_append_right _ (List.mem_append_right _ (List.mem_of_getElem? (i := 109) rfl))
theorem zj_287 : (.methodLink RzW 28 yz_M_reserve : Cond) ∈ k2_sels lw_privs ++ (tables_1_1 ++ tables_1_2) := List.mem_append_right _ (List.mem_append_right _ (List.mem_of_getElem? (i := 110) rfl))
theorem zj_288 : (.instanceMethod yz_M_reserve : Cond) ∈ k2_sels lw_privs ++ (tables_1_1 ++ tables_1_2) := List.mem_append_right _ (List.mem_append_right _ (List.mem_of_getElem? (i := 111) rfl))
theorem zj_289 : (.selects RzM yz_M_reserve yz_M_reserve : Cond) ∈ k2_sels lw_privs ++ (tables_1_1 ++ tables_1_2) := List.mem_append_right _ (List.mem_append_right _ (List.mem_of_getElem? (i := 112) rfl))
theorem zj_290 : (.code yz_M_reserve cz_M_reserve 7 (some .int) : Cond) ∈ k2_sels lw_privs ++ (tables_1_1 ++ tables_1_2) := List.mem_append_right _ (List.mem_append_right _ (List.mem_of_getElem? (i := 113) rfl))
theorem zj_291 : (.constantLong RzM 64 2000000000 : Cond) ∈ k2_sels lw_privs ++ (tables_1_1 ++ tables_1_2) := List.mem_append_right _ (List.mem_append_right _ (List.mem_of_getElem? (i := 114) rfl))
theorem zj_292 : (.methodLink RzW 33 yz_M_put : Cond) ∈ k2_sels lw_privs ++ (tables_1_1 ++ tables_1_2) := List.mem_append_right _ (List.mem_append_right _ (List.mem_of_getElem? (i := 115) rfl))
theorem zj_293 : (.instanceMethod yz_M_put : Cond) ∈ k2_sels lw_privs ++ (tables_1_1 ++ tables_1_2) := List.mem_append_right _ (List.mem_append_right _ (List.mem_of_getElem? (i := 116) rfl))
theorem zj_294 : (.selects RzM yz_M_put yz_M_put : Cond) ∈ k2_sels lw_privs ++ (tables_1_1 ++ tables_1_2) := List.mem_append_right _ (List.mem_append_right _ (List.mem_of_getElem? (i := 117) rfl))
theorem zj_295 : (.code yz_M_put cz_M_put 7 (some .int) : Cond) ∈ k2_sels lw_privs ++ (tables_1_1 ++ tables_1_2) := List.mem_append_right _ (List.mem_append_right _ (List.mem_of_getElem? (i := 118) rfl))
theorem zj_296 : (.methodLink RzM 76 yz_M_isBox : Cond) ∈ k2_sels lw_privs ++ (tables_1_1 ++ tables_1_2) := List.mem_append_right _ (List.mem_append_right _ (List.mem_of_getElem? (i := 119) rfl))
theorem zj_297 : (.instanceMethod yz_M_isBox : Cond) ∈ k2_sels lw_privs ++ (tables_1_1 ++ tables_1_2) := List.mem_append_right _ (List.mem_append_right _ (List.mem_of_getElem? (i := 121) rfl))
theorem zj_298 : (.code yz_M_isBox cz_M_isBox 2 (some .boolean) : Cond) ∈ k2_sels lw_privs ++ (tables_1_1 ++ tables_1_2) := List.mem_append_right _ (List.mem_append_right _ (List.mem_of_getElem? (i := 122) rfl))
theorem zj_299 : (.constantLong RzM 80 9999 : Cond) ∈ k2_sels lw_privs ++ (tables_1_1 ++ tables_1_2) := List.mem_append_right _ (List.mem_append_right _ (List.mem_of_getElem? (i := 123) rfl))
theorem zj_300 : (.methodLink RzM 82 yz_M_isNoTime : Cond) ∈ k2_sels lw_privs ++ (tables_1_1 ++ tables_1_2) := List.mem_append_right _ (List.mem_append_right _ (List.mem_of_getElem? (i := 124) rfl))
theorem zj_301 : (.instanceMethod yz_M_isNoTime : Cond) ∈ k2_sels lw_privs ++ (tables_1_1 ++ tables_1_2) := List.mem_append_right _ (List.mem_append_right _ (List.mem_of_getElem? (i := 126) rfl))
theorem zj_302 : (.code yz_M_isNoTime cz_M_isNoTime 3 (some .boolean) : Cond) ∈ k2_sels lw_privs ++ (tables_1_1 ++ tables_1_2) := List.mem_append_right _ (List.mem_append_right _ (List.mem_of_getElem? (i := 127) rfl))
theorem zj_303 : (.methodLink RzM 86 yz_M_pass : Cond) ∈ k2_sels lw_privs ++ (tables_1_1 ++ tables_1_2) := List.mem_append_right _ (List.mem_append_right _ (List.mem_of_getElem? (i := 128) rfl))
theorem zj_304 : (.instanceMethod yz_M_pass : Cond) ∈ k2_sels lw_privs ++ (tables_1_1 ++ tables_1_2) := List.mem_append_right _ (List.mem_append_right _ (List.mem_of_getElem? (i := 130) rfl))
theorem zj_305 : (.code yz_M_pass cz_M_pass 5 (Option.none : Option Jvm.ClassFile.FieldType) : Cond) ∈ k2_sels lw_privs ++ (tables_1_1 ++ tables_1_2) := List.mem_append_right _ (List.mem_append_right _ (List.mem_of_getElem? (i := 131) rfl))
theorem zj_306 : (.constantLong RzM 69 120 : Cond) ∈ k2_sels lw_privs ++ (tables_1_1 ++ tables_1_2) := List.mem_append_right _ (List.mem_append_right _ (List.mem_of_getElem? (i := 132) rfl))
theorem zj_307 : (.constantLong RzM 74 604800 : Cond) ∈ k2_sels lw_privs ++ (tables_1_1 ++ tables_1_2) := List.mem_append_right _ (List.mem_append_right _ (List.mem_of_getElem? (i := 133) rfl))
theorem zj_308 : (.methodLink RzW 37 yz_M_close : Cond) ∈ k2_sels lw_privs ++ (tables_1_1 ++ tables_1_2) := List.mem_append_right _ (List.mem_append_right _ (List.mem_of_getElem? (i := 134) rfl))
theorem zj_309 : (.instanceMethod yz_M_close : Cond) ∈ k2_sels lw_privs ++ (tables_1_1 ++ tables_1_2) := List.mem_append_right _ (List.mem_append_right _ (List.mem_of_getElem? (i := 135) rfl))
theorem zj_310 : (.selects RzM yz_M_close yz_M_close : Cond) ∈ k2_sels lw_privs ++ (tables_1_1 ++ tables_1_2) := List.mem_append_right _ (List.mem_append_right _ (List.mem_of_getElem? (i := 136) rfl))
theorem zj_311 : (.code yz_M_close cz_M_close 7 (some .int) : Cond) ∈ k2_sels lw_privs ++ (tables_1_1 ++ tables_1_2) := List.mem_append_right _ (List.mem_append_right _ (List.mem_of_getElem? (i := 137) rfl))
theorem zj_312 : (.methodLink RzM 90 yz_M_isCode : Cond) ∈ k2_sels lw_privs ++ (tables_1_1 ++ tables_1_2) := List.mem_append_right _ (List.mem_append_right _ (List.mem_of_getElem? (i := 138) rfl))
theorem zj_313 : (.instanceMethod yz_M_isCode : Cond) ∈ k2_sels lw_privs ++ (tables_1_1 ++ tables_1_2) := List.mem_append_right _ (List.mem_append_right _ (List.mem_of_getElem? (i := 140) rfl))
theorem zj_314 : (.code yz_M_isCode cz_M_isCode 3 (some .boolean) : Cond) ∈ k2_sels lw_privs ++ (tables_1_1 ++ tables_1_2) := List.mem_append_right _ (List.mem_append_right _ (List.mem_of_getElem? (i := 141) rfl))
theorem zj_315 : (.methodLink RzW 41 yz_M_type : Cond) ∈ k2_sels lw_privs ++ (tables_1_1 ++ tables_1_2) := List.mem_append_right _ (List.mem_append_right _ (List.mem_of_getElem? (i := 142) rfl))
theorem zj_316 : (.instanceMethod yz_M_type : Cond) ∈ k2_sels lw_privs ++ (tables_1_1 ++ tables_1_2) := List.mem_append_right _ (List.mem_append_right _ (List.mem_of_getElem? (i := 143) rfl))
theorem zj_317 : (.selects RzM yz_M_type yz_M_type : Cond) ∈ k2_sels lw_privs ++ (tables_1_1 ++ tables_1_2) := List.mem_append_right _ (List.mem_append_right _ (List.mem_of_getElem? (i := 144) rfl))
theorem zj_318 : (.code yz_M_type cz_M_type 5 (some .int) : Cond) ∈ k2_sels lw_privs ++ (tables_1_1 ++ tables_1_2) := List.mem_append_right _ (List.mem_append_right _ (List.mem_of_getElem? (i := 145) rfl))
theorem zj_319 : (.methodLink RzM 96 yz_M_out : Cond) ∈ k2_sels lw_privs ++ (tables_1_1 ++ tables_1_2) := List.mem_append_right _ (List.mem_append_right _ (List.mem_of_getElem? (i := 146) rfl))
theorem zj_320 : (.instanceMethod yz_M_out : Cond) ∈ k2_sels lw_privs ++ (tables_1_1 ++ tables_1_2) := List.mem_append_right _ (List.mem_append_right _ (List.mem_of_getElem? (i := 148) rfl))
theorem zj_321 : (.code yz_M_out cz_M_out 3 (some .int) : Cond) ∈ k2_sels lw_privs ++ (tables_1_1 ++ tables_1_2) := List.mem_append_right _ (List.mem_append_right _ (List.mem_of_getElem? (i := 149) rfl))
theorem zj_322 : (.methodLink RzM 100 yz_M_open : Cond) ∈ k2_sels lw_privs ++ (tables_1_1 ++ tables_1_2) := List.mem_append_right _ (List.mem_append_right _ (List.mem_of_getElem? (i := 150) rfl))
theorem zj_323 : (.instanceMethod yz_M_open : Cond) ∈ k2_sels lw_privs ++ (tables_1_1 ++ tables_1_2) := List.mem_append_right _ (List.mem_append_right _ (List.mem_of_getElem? (i := 152) rfl))
theorem zj_324 : (.code yz_M_open cz_M_open 3 (Option.none : Option Jvm.ClassFile.FieldType) : Cond) ∈ k2_sels lw_privs ++ (tables_1_1 ++ tables_1_2) := List.mem_append_right _ (List.mem_append_right _ (List.mem_of_getElem? (i := 153) rfl))
theorem zj_325 : (.constantLong RzM 107 300 : Cond) ∈ k2_sels lw_privs ++ (tables_1_1 ++ tables_1_2) := List.mem_append_right _ (List.mem_append_right _ (List.mem_of_getElem? (i := 154) rfl))
theorem zj_326 : (.methodLink RzW 45 yz_M_code : Cond) ∈ k2_sels lw_privs ++ (tables_1_1 ++ tables_1_2) := List.mem_append_right _ (List.mem_append_right _ (List.mem_of_getElem? (i := 155) rfl))
theorem zj_327 : (.instanceMethod yz_M_code : Cond) ∈ k2_sels lw_privs ++ (tables_1_1 ++ tables_1_2) := List.mem_append_right _ (List.mem_append_right _ (List.mem_of_getElem? (i := 156) rfl))
theorem zj_328 : (.selects RzM yz_M_code yz_M_code : Cond) ∈ k2_sels lw_privs ++ (tables_1_1 ++ tables_1_2) := List.mem_append_right _ (List.mem_append_right _ (List.mem_of_getElem? (i := 157) rfl))
theorem zj_329 : (.code yz_M_code cz_M_code 3 (some .int) : Cond) ∈ k2_sels lw_privs ++ (tables_1_1 ++ tables_1_2) := List.mem_append_right _ (List.mem_append_right _ (List.mem_of_getElem? (i := 158) rfl))
theorem zj_330 : (.methodLink RzW 49 yz_M_door : Cond) ∈ k2_sels lw_privs ++ (tables_1_1 ++ tables_1_2) := List.mem_append_right _ (List.mem_append_right _ (List.mem_of_getElem? (i := 159) rfl))
theorem zj_331 : (.instanceMethod yz_M_door : Cond) ∈ k2_sels lw_privs ++ (tables_1_1 ++ tables_1_2) := List.mem_append_right _ (List.mem_append_right _ (List.mem_of_getElem? (i := 160) rfl))
theorem zj_332 : (.selects RzM yz_M_door yz_M_door : Cond) ∈ k2_sels lw_privs ++ (tables_1_1 ++ tables_1_2) := List.mem_append_right _ (List.mem_append_right _ (List.mem_of_getElem? (i := 161) rfl))
theorem zj_333 : (.code yz_M_door cz_M_door 7 (some .int) : Cond) ∈ k2_sels lw_privs ++ (tables_1_1 ++ tables_1_2) := List.mem_append_right _ (List.mem_append_right _ (List.mem_of_getElem? (i := 162) rfl))
theorem zj_334 : (.constantLong RzM 109 4 : Cond) ∈ k2_sels lw_privs ++ (tables_1_1 ++ tables_1_2) := List.mem_append_right _ (List.mem_append_right _ (List.mem_of_getElem? (i := 163) rfl))
theorem zj_335 : (.methodLink RzW 54 yz_M_tick : Cond) ∈ k2_sels lw_privs ++ (tables_1_1 ++ tables_1_2) := List.mem_append_right _ (List.mem_append_right _ (List.mem_of_getElem? (i := 164) rfl))
theorem zj_336 : (.instanceMethod yz_M_tick : Cond) ∈ k2_sels lw_privs ++ (tables_1_1 ++ tables_1_2) := List.mem_append_right _ (List.mem_append_right _ (List.mem_of_getElem? (i := 165) rfl))
theorem zj_337 : (.selects RzM yz_M_tick yz_M_tick : Cond) ∈ k2_sels lw_privs ++ (tables_1_1 ++ tables_1_2) := List.mem_append_right _ (List.mem_append_right _ (List.mem_of_getElem? (i := 166) rfl))
theorem zj_338 : (.code yz_M_tick cz_M_tick 4 (some .int) : Cond) ∈ k2_sels lw_privs ++ (tables_1_1 ++ tables_1_2) := List.mem_append_right _ (List.mem_append_right _ (List.mem_of_getElem? (i := 167) rfl))
theorem zj_339 : (.methodLink RzW 59 yz_M_take : Cond) ∈ k2_sels lw_privs ++ (tables_1_1 ++ tables_1_2) := List.mem_append_right _ (List.mem_append_right _ (List.mem_of_getElem? (i := 168) rfl))
theorem zj_340 : (.instanceMethod yz_M_take : Cond) ∈ k2_sels lw_privs ++ (tables_1_1 ++ tables_1_2) := List.mem_append_right _ (List.mem_append_right _ (List.mem_of_getElem? (i := 169) rfl))
theorem zj_341 : (.selects RzM yz_M_take yz_M_take : Cond) ∈ k2_sels lw_privs ++ (tables_1_1 ++ tables_1_2) := List.mem_append_right _ (List.mem_append_right _ (List.mem_of_getElem? (i := 170) rfl))
theorem zj_342 : (.code yz_M_take cz_M_take 3 (some .int) : Cond) ∈ k2_sels lw_privs ++ (tables_1_1 ++ tables_1_2) := List.mem_append_right _ (List.mem_append_right _ (List.mem_of_getElem? (i := 171) rfl))
theorem zj_343 : (.constantLong RzM 111 9 : Cond) ∈ k2_sels lw_privs ++ (tables_1_1 ++ tables_1_2) := List.mem_append_right _ (List.mem_append_right _ (List.mem_of_getElem? (i := 172) rfl))
theorem zj_344 : (.methodLink RzW 63 yz_M_item : Cond) ∈ k2_sels lw_privs ++ (tables_1_1 ++ tables_1_2) := List.mem_append_right _ (List.mem_append_right _ (List.mem_of_getElem? (i := 173) rfl))
theorem zj_345 : (.instanceMethod yz_M_item : Cond) ∈ k2_sels lw_privs ++ (tables_1_1 ++ tables_1_2) := List.mem_append_right _ (List.mem_append_right _ (List.mem_of_getElem? (i := 174) rfl))
theorem zj_346 : (.selects RzM yz_M_item yz_M_item : Cond) ∈ k2_sels lw_privs ++ (tables_1_1 ++ tables_1_2) := List.mem_append_right _ (List.mem_append_right _ (List.mem_of_getElem? (i := 175) rfl))
theorem zj_347 : (.code yz_M_item cz_M_item 2 (some .int) : Cond) ∈ k2_sels lw_privs ++ (tables_1_1 ++ tables_1_2) := List.mem_append_right _ (List.mem_append_right _ (List.mem_of_getElem? (i := 176) rfl))
theorem zj_348 : (.methodLink RzW 67 yz_M_freed : Cond) ∈ k2_sels lw_privs ++ (tables_1_1 ++ tables_1_2) := List.mem_append_right _ (List.mem_append_right _ (List.mem_of_getElem? (i := 177) rfl))
theorem zj_349 : (.instanceMethod yz_M_freed : Cond) ∈ k2_sels lw_privs ++ (tables_1_1 ++ tables_1_2) := List.mem_append_right _ (List.mem_append_right _ (List.mem_of_getElem? (i := 178) rfl))
theorem zj_350 : (.selects RzM yz_M_freed yz_M_freed : Cond) ∈ k2_sels lw_privs ++ (tables_1_1 ++ tables_1_2) := List.mem_append_right _ (List.mem_append_right _ (List.mem_of_getElem? (i := 179) rfl))
theorem zj_351 : (.code yz_M_freed cz_M_freed 2 (some .int) : Cond) ∈ k2_sels lw_privs ++ (tables_1_1 ++ tables_1_2) := List.mem_append_right _ (List.mem_append_right _ (List.mem_of_getElem? (i := 180) rfl))
theorem zj_352 : (.constantLong RzW 22 4294967295 : Cond) ∈ k2_sels lw_privs ++ (tables_1_1 ++ tables_1_2) := List.mem_append_right _ (List.mem_append_right _ (List.mem_of_getElem? (i := 181) rfl))
theorem zk_0 : (.arrayOver (.object "LockerRows$Box") : Cond) ∈ k2_sels lw_privs ++ (tables_1_1 ++ tables_1_2) := List.mem_append_right _ (List.mem_append_left _ (List.mem_of_getElem? (i := 15) rfl))
theorem zk_1 : (.methodLinkNest RzL 21 yz_T_init "LockerRows" : Cond) ∈ k2_sels lw_privs ++ (tables_1_1 ++ tables_1_2) := List.mem_append_right _ (List.mem_append_left _ (List.mem_of_getElem? (i := 18) rfl))
theorem zk_2 : (.methodLinkNest RzL 50 yz_B_init "LockerRows" : Cond) ∈ k2_sels lw_privs ++ (tables_1_1 ++ tables_1_2) := List.mem_append_right _ (List.mem_append_left _ (List.mem_of_getElem? (i := 66) rfl))
theorem zk_3 : (.fieldLinkNest RzL 151 "LockerRows$Box" "size" "I" "LockerRows" : Cond) ∈ k2_sels lw_privs ++ (tables_1_1 ++ tables_1_2) := List.mem_append_right _ (List.mem_append_left _ (List.mem_of_getElem? (i := 71) rfl))
theorem zk_4 : (.fieldLinkNest RzL 87 "LockerRows$Box" "door" "I" "LockerRows" : Cond) ∈ k2_sels lw_privs ++ (tables_1_1 ++ tables_1_2) := List.mem_append_right _ (List.mem_append_left _ (List.mem_of_getElem? (i := 73) rfl))
theorem zk_5 : (.fieldLinkNest RzL 137 "LockerRows$Box" "item" "I" "LockerRows" : Cond) ∈ k2_sels lw_privs ++ (tables_1_1 ++ tables_1_2) := List.mem_append_right _ (List.mem_append_left _ (List.mem_of_getElem? (i := 77) rfl))
theorem zk_6 : (.fieldLinkNest RzL 122 "LockerRows$Box" "code" "I" "LockerRows" : Cond) ∈ k2_sels lw_privs ++ (tables_1_1 ++ tables_1_2) := List.mem_append_right _ (List.mem_append_left _ (List.mem_of_getElem? (i := 79) rfl))
theorem zk_7 : (.fieldLinkNest RzL 140 "LockerRows$Box" "late" "Z" "LockerRows" : Cond) ∈ k2_sels lw_privs ++ (tables_1_1 ++ tables_1_2) := List.mem_append_right _ (List.mem_append_left _ (List.mem_of_getElem? (i := 82) rfl))
theorem zk_8 : (.fieldLinkNest RzL 73 "LockerRows$Box" "keptUntil" "J" "LockerRows" : Cond) ∈ k2_sels lw_privs ++ (tables_1_1 ++ tables_1_2) := List.mem_append_right _ (List.mem_append_left _ (List.mem_of_getElem? (i := 84) rfl))
theorem zk_9 : (.methodLinkNest RzL 56 yz_T_append "LockerRows" : Cond) ∈ k2_sels lw_privs ++ (tables_1_1 ++ tables_1_2) := List.mem_append_right _ (List.mem_append_left _ (List.mem_of_getElem? (i := 112) rfl))
theorem zk_10 : (.methodLinkNest RzL 59 yz_T_length "LockerRows" : Cond) ∈ k2_sels lw_privs ++ (tables_1_1 ++ tables_1_2) := List.mem_append_right _ (List.mem_append_left _ (List.mem_of_getElem? (i := 116) rfl))
theorem zk_11 : (.methodLinkNest RzL 148 yz_B_isUnused "LockerRows" : Cond) ∈ k2_sels lw_privs ++ (tables_1_1 ++ tables_1_2) := List.mem_append_right _ (List.mem_append_left _ (List.mem_of_getElem? (i := 133) rfl))
theorem zk_12 : (.methodLinkNest RzL 162 yz_B_freeIfDue "LockerRows" : Cond) ∈ k2_sels lw_privs ++ (tables_1_1 ++ tables_1_2) := List.mem_append_right _ (List.mem_append_left _ (List.mem_of_getElem? (i := 156) rfl))
theorem zk_13 : (.methodLinkNest RzL 168 yz_B_tellAlarms "LockerRows" : Cond) ∈ k2_sels lw_privs ++ (tables_1_1 ++ tables_1_2) := List.mem_append_right _ (List.mem_append_left _ (List.mem_of_getElem? (i := 164) rfl))
theorem zk_14 : (.methodLinkNest RzL 90 yz_B_isEmpty "LockerRows" : Cond) ∈ k2_sels lw_privs ++ (tables_1_1 ++ tables_1_2) := List.mem_append_right _ (List.mem_append_left _ (List.mem_of_getElem? (i := 178) rfl))
theorem zk_15 : (.methodLinkNest RzL 97 yz_B_receive "LockerRows" : Cond) ∈ k2_sels lw_privs ++ (tables_1_1 ++ tables_1_2) := List.mem_append_right _ (List.mem_append_left _ (List.mem_of_getElem? (i := 183) rfl))
theorem zk_16 : (.methodLinkNest RzL 100 yz_B_wantsCode "LockerRows" : Cond) ∈ k2_sels lw_privs ++ (tables_1_1 ++ tables_1_2) := List.mem_append_right _ (List.mem_append_left _ (List.mem_of_getElem? (i := 191) rfl))
theorem zk_17 : (.methodLinkNest RzL 154 yz_T_at "LockerRows" : Cond) ∈ k2_sels lw_privs ++ (tables_1_1 ++ tables_1_2) := List.mem_append_right _ (List.mem_append_left _ (List.mem_of_getElem? (i := 199) rfl))
theorem zk_18 : (.methodLinkNest RzL 145 yz_B_lies "LockerRows" : Cond) ∈ k2_sels lw_privs ++ (tables_1_1 ++ tables_1_2) := List.mem_append_right _ (List.mem_append_left _ (List.mem_of_getElem? (i := 207) rfl))
theorem zk_19 : (.methodLinkNest RzL 157 yz_T_dropFirst "LockerRows" : Cond) ∈ k2_sels lw_privs ++ (tables_1_1 ++ tables_1_2) := List.mem_append_right _ (List.mem_append_left _ (List.mem_of_getElem? (i := 208) rfl))
theorem zk_20 : (.methodLinkNest RzL 106 yz_B_layDown "LockerRows" : Cond) ∈ k2_sels lw_privs ++ (tables_1_1 ++ tables_1_2) := List.mem_append_right _ (List.mem_append_left _ (List.mem_of_getElem? (i := 215) rfl))
theorem zk_21 : (.methodLinkNest RzL 116 yz_B_clear "LockerRows" : Cond) ∈ k2_sels lw_privs ++ (tables_1_1 ++ tables_1_2) := List.mem_append_right _ (List.mem_append_left _ (List.mem_of_getElem? (i := 228) rfl))
theorem zk_22 : (.methodLinkNest RzL 119 yz_B_beginOpening "LockerRows" : Cond) ∈ k2_sels lw_privs ++ (tables_1_1 ++ tables_1_2) := List.mem_append_right _ (List.mem_append_left _ (List.mem_of_getElem? (i := 232) rfl))
theorem zk_23 : (.methodLinkNest RzL 125 yz_B_isEvent "LockerRows" : Cond) ∈ k2_sels lw_privs ++ (tables_1_1 ++ tables_1_2) := List.mem_append_right _ (List.mem_append_right _ (List.mem_of_getElem? (i := 4) rfl))
theorem zk_24 : (.methodLinkNest RzL 128 yz_B_admits "LockerRows" : Cond) ∈ k2_sels lw_privs ++ (tables_1_1 ++ tables_1_2) := List.mem_append_right _ (List.mem_append_right _ (List.mem_of_getElem? (i := 7) rfl))
theorem zk_25 : (.methodLinkNest RzL 131 yz_B_undergo "LockerRows" : Cond) ∈ k2_sels lw_privs ++ (tables_1_1 ++ tables_1_2) := List.mem_append_right _ (List.mem_append_right _ (List.mem_of_getElem? (i := 12) rfl))
theorem zk_26 : (.methodLinkNest RzL 134 yz_B_isOpenOrForced "LockerRows" : Cond) ∈ k2_sels lw_privs ++ (tables_1_1 ++ tables_1_2) := List.mem_append_right _ (List.mem_append_right _ (List.mem_of_getElem? (i := 25) rfl))
def zw_T_0 : List Cond := [
  .selects RzT yz_T_append yz_T_append,
  .selects RzT yz_T_length yz_T_length,
  .selects RzL yz_L_smallestUnused yz_L_smallestUnused,
  .selects RzL yz_L_boxAt yz_L_boxAt,
  .selects RzB yz_B_isUnused yz_B_isUnused,
  .selects RzB yz_B_isEmpty yz_B_isEmpty,
  .selects RzL yz_L_isTime yz_L_isTime,
  .selects RzL yz_L_passTo yz_L_passTo,
  .selects RzB yz_B_freeIfDue yz_B_freeIfDue,
  .selects RzL yz_L_noteFreed yz_L_noteFreed,
  .selects RzB yz_B_tellAlarms yz_B_tellAlarms,
  .selects RzB yz_B_isOpenOrForced yz_B_isOpenOrForced,
  .selects RzB yz_B_lies yz_B_lies,
  .selects RzL yz_L_boxOfItem yz_L_boxOfItem,
  .selects RzB yz_B_receive yz_B_receive,
  .selects RzB yz_B_wantsCode yz_B_wantsCode]
theorem zw_s_0 : ∀ w ∈ zw_T_0, w ∈ lw_tbl := by rw [zw_lt]; exact List.forall_mem_cons.mpr ⟨zj_0, List.forall_mem_cons.mpr ⟨zj_1, List.forall_mem_cons.mpr ⟨zj_2, List.forall_mem_cons.mpr ⟨zj_3, List.forall_mem_cons.mpr ⟨zj_4, List.forall_mem_cons.mpr ⟨zj_5, List.forall_mem_cons.mpr ⟨zj_6, List.forall_mem_cons.mpr ⟨zj_7, List.forall_mem_cons.mpr ⟨zj_8, List.forall_mem_cons.mpr ⟨zj_9, List.forall_mem_cons.mpr ⟨zj_10, List.forall_mem_cons.mpr ⟨zj_11, List.forall_mem_cons.mpr ⟨zj_12, List.forall_mem_cons.mpr ⟨zj_13, List.forall_mem_cons.mpr ⟨zj_14, List.forall_mem_cons.mpr ⟨zj_15, fun _ h => absurd h List.not_mem_nil⟩⟩⟩⟩⟩⟩⟩⟩⟩⟩⟩⟩⟩⟩⟩⟩
def zw_T_1 : List Cond := [
  .selects RzL yz_L_wantedCode yz_L_wantedCode,
  .selects RzT yz_T_at yz_T_at,
  .selects RzL yz_L_boxNumberOfCode yz_L_boxNumberOfCode,
  .selects RzT yz_T_dropFirst yz_T_dropFirst,
  .selects RzB yz_B_layDown yz_B_layDown,
  .selects RzL yz_L_countWrongTry yz_L_countWrongTry,
  .selects RzB yz_B_clear yz_B_clear,
  .selects RzB yz_B_beginOpening yz_B_beginOpening,
  .selects RzB yz_B_admits yz_B_admits,
  .selects RzB yz_B_undergo yz_B_undergo,
  .selects RzM yz_M_isBox yz_M_isBox,
  .selects RzM yz_M_isNoTime yz_M_isNoTime,
  .selects RzM yz_M_pass yz_M_pass,
  .selects RzM yz_M_isCode yz_M_isCode,
  .selects RzM yz_M_out yz_M_out,
  .selects RzM yz_M_open yz_M_open]
theorem zw_s_1 : ∀ w ∈ zw_T_1, w ∈ lw_tbl := by rw [zw_lt]; exact List.forall_mem_cons.mpr ⟨zj_16, List.forall_mem_cons.mpr ⟨zj_17, List.forall_mem_cons.mpr ⟨zj_18, List.forall_mem_cons.mpr ⟨zj_19, List.forall_mem_cons.mpr ⟨zj_20, List.forall_mem_cons.mpr ⟨zj_21, List.forall_mem_cons.mpr ⟨zj_22, List.forall_mem_cons.mpr ⟨zj_23, List.forall_mem_cons.mpr ⟨zj_24, List.forall_mem_cons.mpr ⟨zj_25, List.forall_mem_cons.mpr ⟨zj_26, List.forall_mem_cons.mpr ⟨zj_27, List.forall_mem_cons.mpr ⟨zj_28, List.forall_mem_cons.mpr ⟨zj_29, List.forall_mem_cons.mpr ⟨zj_30, List.forall_mem_cons.mpr ⟨zj_31, fun _ h => absurd h List.not_mem_nil⟩⟩⟩⟩⟩⟩⟩⟩⟩⟩⟩⟩⟩⟩⟩⟩
def zw_T_2 : List Cond := [
  .initialized RzW,
  .initialized RzL,
  .initialized RzT,
  .initialized RzM,
  .initialized RzB,
  .initialized "java/lang/System",
  .classLink RzW 7 RzL,
  .instantiable RzL 9,
  .methodLink RzW 9 yz_L_init,
  .instanceMethod yz_L_init,
  .code yz_L_init cz_L_init 1 (Option.none : Option Jvm.ClassFile.FieldType),
  .methodLink RzL 1 objectInit,
  .instanceMethod objectInit,
  .code objectInit ⟨#[0xb1]⟩ 1 none,
  .classLink RzL 9 RzB,
  .classLink RzL 19 RzT]
theorem zw_s_2 : ∀ w ∈ zw_T_2, w ∈ lw_tbl := by rw [zw_lt]; exact List.forall_mem_cons.mpr ⟨zj_32, List.forall_mem_cons.mpr ⟨zj_33, List.forall_mem_cons.mpr ⟨zj_34, List.forall_mem_cons.mpr ⟨zj_35, List.forall_mem_cons.mpr ⟨zj_36, List.forall_mem_cons.mpr ⟨zj_37, List.forall_mem_cons.mpr ⟨zj_38, List.forall_mem_cons.mpr ⟨zj_39, List.forall_mem_cons.mpr ⟨zj_40, List.forall_mem_cons.mpr ⟨zj_41, List.forall_mem_cons.mpr ⟨zj_42, List.forall_mem_cons.mpr ⟨zj_43, List.forall_mem_cons.mpr ⟨zj_44, List.forall_mem_cons.mpr ⟨zj_45, List.forall_mem_cons.mpr ⟨zj_46, List.forall_mem_cons.mpr ⟨zj_47, fun _ h => absurd h List.not_mem_nil⟩⟩⟩⟩⟩⟩⟩⟩⟩⟩⟩⟩⟩⟩⟩⟩
def zw_T_3 : List Cond := [
  .instantiable RzT 2,
  .instanceMethod yz_T_init,
  .code yz_T_init cz_T_init 1 (Option.none : Option Jvm.ClassFile.FieldType),
  .methodLink RzT 3 objectInit,
  .fieldLink RzT 11 "LockerRows$Tape" "row" "[I",
  .fieldLink RzT 15 "LockerRows$Tape" "count" "I",
  .laysFinal "LockerRows$Tape" "LockerRows$Tape" "row" "[I",
  .lays "LockerRows$Tape" "LockerRows$Tape" "count" "I",
  .arrayClass .int,
  .fieldLink RzL 11 "LockerRows" "boxes" "[LLockerRows$Box;",
  .fieldLink RzL 15 "LockerRows" "boxCount" "I",
  .fieldLink RzL 22 "LockerRows" "numbers" "LLockerRows$Tape;",
  .fieldLink RzL 26 "LockerRows" "freedBoxes" "[I",
  .fieldLink RzL 30 "LockerRows" "freedCount" "I",
  .fieldLink RzL 33 "LockerRows" "time" "J",
  .fieldLink RzL 37 "LockerRows" "alarms" "I"]
theorem zw_s_3 : ∀ w ∈ zw_T_3, w ∈ lw_tbl := by rw [zw_lt]; exact List.forall_mem_cons.mpr ⟨zj_48, List.forall_mem_cons.mpr ⟨zj_49, List.forall_mem_cons.mpr ⟨zj_50, List.forall_mem_cons.mpr ⟨zj_51, List.forall_mem_cons.mpr ⟨zj_52, List.forall_mem_cons.mpr ⟨zj_53, List.forall_mem_cons.mpr ⟨zj_54, List.forall_mem_cons.mpr ⟨zj_55, List.forall_mem_cons.mpr ⟨zj_56, List.forall_mem_cons.mpr ⟨zj_57, List.forall_mem_cons.mpr ⟨zj_58, List.forall_mem_cons.mpr ⟨zj_59, List.forall_mem_cons.mpr ⟨zj_60, List.forall_mem_cons.mpr ⟨zj_61, List.forall_mem_cons.mpr ⟨zj_62, List.forall_mem_cons.mpr ⟨zj_63, fun _ h => absurd h List.not_mem_nil⟩⟩⟩⟩⟩⟩⟩⟩⟩⟩⟩⟩⟩⟩⟩⟩
def zw_T_4 : List Cond := [
  .fieldLink RzL 40 "LockerRows" "wrongTries" "I",
  .fieldLink RzL 43 "LockerRows" "keypadWaitsUntil" "J",
  .laysFinal "LockerRows" "LockerRows" "boxes" "[LLockerRows$Box;",
  .lays "LockerRows" "LockerRows" "boxCount" "I",
  .laysFinal "LockerRows" "LockerRows" "numbers" "LLockerRows$Tape;",
  .laysFinal "LockerRows" "LockerRows" "freedBoxes" "[I",
  .lays "LockerRows" "LockerRows" "freedCount" "I",
  .lays "LockerRows" "LockerRows" "time" "J",
  .lays "LockerRows" "LockerRows" "alarms" "I",
  .lays "LockerRows" "LockerRows" "wrongTries" "I",
  .lays "LockerRows" "LockerRows" "keypadWaitsUntil" "J",
  .methodLink RzW 13 yz_L_box,
  .instanceMethod yz_L_box,
  .selects RzL yz_L_box yz_L_box,
  .code yz_L_box cz_L_box 2 (some .int),
  .methodLink RzL 46 yz_L_isSize]
theorem zw_s_4 : ∀ w ∈ zw_T_4, w ∈ lw_tbl := by rw [zw_lt]; exact List.forall_mem_cons.mpr ⟨zj_64, List.forall_mem_cons.mpr ⟨zj_65, List.forall_mem_cons.mpr ⟨zj_66, List.forall_mem_cons.mpr ⟨zj_67, List.forall_mem_cons.mpr ⟨zj_68, List.forall_mem_cons.mpr ⟨zj_69, List.forall_mem_cons.mpr ⟨zj_70, List.forall_mem_cons.mpr ⟨zj_71, List.forall_mem_cons.mpr ⟨zj_72, List.forall_mem_cons.mpr ⟨zj_73, List.forall_mem_cons.mpr ⟨zj_74, List.forall_mem_cons.mpr ⟨zj_75, List.forall_mem_cons.mpr ⟨zj_76, List.forall_mem_cons.mpr ⟨zj_77, List.forall_mem_cons.mpr ⟨zj_78, List.forall_mem_cons.mpr ⟨zj_79, fun _ h => absurd h List.not_mem_nil⟩⟩⟩⟩⟩⟩⟩⟩⟩⟩⟩⟩⟩⟩⟩⟩
def zw_T_5 : List Cond := [
  .static yz_L_isSize,
  .code yz_L_isSize cz_L_isSize 1 (some .boolean),
  .instantiable RzB 9,
  .instanceMethod yz_B_init,
  .code yz_B_init cz_B_init 2 (Option.none : Option Jvm.ClassFile.FieldType),
  .methodLink RzB 3 objectInit,
  .fieldLink RzB 38 "LockerRows$Box" "size" "I",
  .fieldLink RzB 9 "LockerRows$Box" "door" "I",
  .fieldLink RzB 15 "LockerRows$Box" "openSince" "J",
  .fieldLink RzB 19 "LockerRows$Box" "openingTold" "Z",
  .fieldLink RzB 23 "LockerRows$Box" "item" "I",
  .fieldLink RzB 26 "LockerRows$Box" "code" "I",
  .fieldLink RzB 29 "LockerRows$Box" "liesSince" "J",
  .fieldLink RzB 32 "LockerRows$Box" "late" "Z",
  .fieldLink RzB 35 "LockerRows$Box" "keptUntil" "J",
  .laysFinal "LockerRows$Box" "LockerRows$Box" "size" "I"]
theorem zw_s_5 : ∀ w ∈ zw_T_5, w ∈ lw_tbl := by rw [zw_lt]; exact List.forall_mem_cons.mpr ⟨zj_80, List.forall_mem_cons.mpr ⟨zj_81, List.forall_mem_cons.mpr ⟨zj_82, List.forall_mem_cons.mpr ⟨zj_83, List.forall_mem_cons.mpr ⟨zj_84, List.forall_mem_cons.mpr ⟨zj_85, List.forall_mem_cons.mpr ⟨zj_86, List.forall_mem_cons.mpr ⟨zj_87, List.forall_mem_cons.mpr ⟨zj_88, List.forall_mem_cons.mpr ⟨zj_89, List.forall_mem_cons.mpr ⟨zj_90, List.forall_mem_cons.mpr ⟨zj_91, List.forall_mem_cons.mpr ⟨zj_92, List.forall_mem_cons.mpr ⟨zj_93, List.forall_mem_cons.mpr ⟨zj_94, List.forall_mem_cons.mpr ⟨zj_95, fun _ h => absurd h List.not_mem_nil⟩⟩⟩⟩⟩⟩⟩⟩⟩⟩⟩⟩⟩⟩⟩⟩
def zw_T_6 : List Cond := [
  .lays "LockerRows$Box" "LockerRows$Box" "door" "I",
  .lays "LockerRows$Box" "LockerRows$Box" "openSince" "J",
  .lays "LockerRows$Box" "LockerRows$Box" "openingTold" "Z",
  .lays "LockerRows$Box" "LockerRows$Box" "item" "I",
  .lays "LockerRows$Box" "LockerRows$Box" "code" "I",
  .lays "LockerRows$Box" "LockerRows$Box" "liesSince" "J",
  .lays "LockerRows$Box" "LockerRows$Box" "late" "Z",
  .lays "LockerRows$Box" "LockerRows$Box" "keptUntil" "J",
  .methodLink RzW 18 yz_L_tape,
  .instanceMethod yz_L_tape,
  .selects RzL yz_L_tape yz_L_tape,
  .code yz_L_tape cz_L_tape 2 (some .int),
  .methodLink RzL 53 yz_L_isCode,
  .static yz_L_isCode,
  .code yz_L_isCode cz_L_isCode 1 (some .boolean),
  .constant RzL 144 999999]
theorem zw_s_6 : ∀ w ∈ zw_T_6, w ∈ lw_tbl := by rw [zw_lt]; exact List.forall_mem_cons.mpr ⟨zj_96, List.forall_mem_cons.mpr ⟨zj_97, List.forall_mem_cons.mpr ⟨zj_98, List.forall_mem_cons.mpr ⟨zj_99, List.forall_mem_cons.mpr ⟨zj_100, List.forall_mem_cons.mpr ⟨zj_101, List.forall_mem_cons.mpr ⟨zj_102, List.forall_mem_cons.mpr ⟨zj_103, List.forall_mem_cons.mpr ⟨zj_104, List.forall_mem_cons.mpr ⟨zj_105, List.forall_mem_cons.mpr ⟨zj_106, List.forall_mem_cons.mpr ⟨zj_107, List.forall_mem_cons.mpr ⟨zj_108, List.forall_mem_cons.mpr ⟨zj_109, List.forall_mem_cons.mpr ⟨zj_110, List.forall_mem_cons.mpr ⟨zj_111, fun _ h => absurd h List.not_mem_nil⟩⟩⟩⟩⟩⟩⟩⟩⟩⟩⟩⟩⟩⟩⟩⟩
def zw_T_7 : List Cond := [
  .instanceMethod yz_T_append,
  .code yz_T_append cz_T_append 2 (some .boolean),
  .instanceMethod yz_T_length,
  .code yz_T_length cz_T_length 1 (some .int),
  .methodLink RzW 24 yz_L_reserve,
  .instanceMethod yz_L_reserve,
  .selects RzL yz_L_reserve yz_L_reserve,
  .code yz_L_reserve cz_L_reserve 6 (some .int),
  .constantLong RzL 63 2000000000,
  .methodLink RzL 65 yz_L_smallestUnused,
  .instanceMethod yz_L_smallestUnused,
  .code yz_L_smallestUnused cz_L_smallestUnused 6 (some .int),
  .methodLink RzL 69 yz_L_boxAt,
  .instanceMethod yz_L_boxAt,
  .code yz_L_boxAt cz_L_boxAt 2 (some (.object "LockerRows$Box")),
  .instanceMethod yz_B_isUnused]
theorem zw_s_7 : ∀ w ∈ zw_T_7, w ∈ lw_tbl := by rw [zw_lt]; exact List.forall_mem_cons.mpr ⟨zj_112, List.forall_mem_cons.mpr ⟨zj_113, List.forall_mem_cons.mpr ⟨zj_114, List.forall_mem_cons.mpr ⟨zj_115, List.forall_mem_cons.mpr ⟨zj_116, List.forall_mem_cons.mpr ⟨zj_117, List.forall_mem_cons.mpr ⟨zj_118, List.forall_mem_cons.mpr ⟨zj_119, List.forall_mem_cons.mpr ⟨zj_120, List.forall_mem_cons.mpr ⟨zj_121, List.forall_mem_cons.mpr ⟨zj_122, List.forall_mem_cons.mpr ⟨zj_123, List.forall_mem_cons.mpr ⟨zj_124, List.forall_mem_cons.mpr ⟨zj_125, List.forall_mem_cons.mpr ⟨zj_126, List.forall_mem_cons.mpr ⟨zj_127, fun _ h => absurd h List.not_mem_nil⟩⟩⟩⟩⟩⟩⟩⟩⟩⟩⟩⟩⟩⟩⟩⟩
def zw_T_8 : List Cond := [
  .code yz_B_isUnused cz_B_isUnused 1 (some .boolean),
  .methodLink RzB 41 yz_B_isEmpty,
  .instanceMethod yz_B_isEmpty,
  .code yz_B_isEmpty cz_B_isEmpty 1 (some .boolean),
  .methodLink RzW 29 yz_L_put,
  .instanceMethod yz_L_put,
  .selects RzL yz_L_put yz_L_put,
  .code yz_L_put cz_L_put 6 (some .int),
  .methodLink RzL 76 yz_L_isItem,
  .static yz_L_isItem,
  .code yz_L_isItem cz_L_isItem 1 (some .boolean),
  .methodLink RzL 79 yz_L_isTime,
  .instanceMethod yz_L_isTime,
  .code yz_L_isTime cz_L_isTime 3 (some .boolean),
  .methodLink RzL 83 yz_L_passTo,
  .instanceMethod yz_L_passTo]
theorem zw_s_8 : ∀ w ∈ zw_T_8, w ∈ lw_tbl := by rw [zw_lt]; exact List.forall_mem_cons.mpr ⟨zj_128, List.forall_mem_cons.mpr ⟨zj_129, List.forall_mem_cons.mpr ⟨zj_130, List.forall_mem_cons.mpr ⟨zj_131, List.forall_mem_cons.mpr ⟨zj_132, List.forall_mem_cons.mpr ⟨zj_133, List.forall_mem_cons.mpr ⟨zj_134, List.forall_mem_cons.mpr ⟨zj_135, List.forall_mem_cons.mpr ⟨zj_136, List.forall_mem_cons.mpr ⟨zj_137, List.forall_mem_cons.mpr ⟨zj_138, List.forall_mem_cons.mpr ⟨zj_139, List.forall_mem_cons.mpr ⟨zj_140, List.forall_mem_cons.mpr ⟨zj_141, List.forall_mem_cons.mpr ⟨zj_142, List.forall_mem_cons.mpr ⟨zj_143, fun _ h => absurd h List.not_mem_nil⟩⟩⟩⟩⟩⟩⟩⟩⟩⟩⟩⟩⟩⟩⟩⟩
def zw_T_9 : List Cond := [
  .code yz_L_passTo cz_L_passTo 5 (Option.none : Option Jvm.ClassFile.FieldType),
  .instanceMethod yz_B_freeIfDue,
  .code yz_B_freeIfDue cz_B_freeIfDue 3 (some .boolean),
  .methodLink RzL 165 yz_L_noteFreed,
  .instanceMethod yz_L_noteFreed,
  .code yz_L_noteFreed cz_L_noteFreed 2 (Option.none : Option Jvm.ClassFile.FieldType),
  .instanceMethod yz_B_tellAlarms,
  .code yz_B_tellAlarms cz_B_tellAlarms 4 (some .int),
  .methodLink RzB 55 yz_B_isOpenOrForced,
  .instanceMethod yz_B_isOpenOrForced,
  .code yz_B_isOpenOrForced cz_B_isOpenOrForced 1 (some .boolean),
  .constantLong RzB 58 120,
  .methodLink RzB 45 yz_B_lies,
  .instanceMethod yz_B_lies,
  .code yz_B_lies cz_B_lies 1 (some .boolean),
  .constantLong RzB 60 604800]
theorem zw_s_9 : ∀ w ∈ zw_T_9, w ∈ lw_tbl := by rw [zw_lt]; exact List.forall_mem_cons.mpr ⟨zj_144, List.forall_mem_cons.mpr ⟨zj_145, List.forall_mem_cons.mpr ⟨zj_146, List.forall_mem_cons.mpr ⟨zj_147, List.forall_mem_cons.mpr ⟨zj_148, List.forall_mem_cons.mpr ⟨zj_149, List.forall_mem_cons.mpr ⟨zj_150, List.forall_mem_cons.mpr ⟨zj_151, List.forall_mem_cons.mpr ⟨zj_152, List.forall_mem_cons.mpr ⟨zj_153, List.forall_mem_cons.mpr ⟨zj_154, List.forall_mem_cons.mpr ⟨zj_155, List.forall_mem_cons.mpr ⟨zj_156, List.forall_mem_cons.mpr ⟨zj_157, List.forall_mem_cons.mpr ⟨zj_158, List.forall_mem_cons.mpr ⟨zj_159, fun _ h => absurd h List.not_mem_nil⟩⟩⟩⟩⟩⟩⟩⟩⟩⟩⟩⟩⟩⟩⟩⟩
def zw_T_10 : List Cond := [
  .methodLink RzL 94 yz_L_boxOfItem,
  .instanceMethod yz_L_boxOfItem,
  .code yz_L_boxOfItem cz_L_boxOfItem 4 (some (.object "LockerRows$Box")),
  .instanceMethod yz_B_receive,
  .code yz_B_receive cz_B_receive 2 (Option.none : Option Jvm.ClassFile.FieldType),
  .methodLink RzW 34 yz_L_close,
  .instanceMethod yz_L_close,
  .selects RzL yz_L_close yz_L_close,
  .code yz_L_close cz_L_close 6 (some .int),
  .instanceMethod yz_B_wantsCode,
  .code yz_B_wantsCode cz_B_wantsCode 1 (some .boolean),
  .methodLink RzL 103 yz_L_wantedCode,
  .instanceMethod yz_L_wantedCode,
  .code yz_L_wantedCode cz_L_wantedCode 3 (some .int),
  .instanceMethod yz_T_at,
  .code yz_T_at cz_T_at 2 (some .int)]
theorem zw_s_10 : ∀ w ∈ zw_T_10, w ∈ lw_tbl := by rw [zw_lt]; exact List.forall_mem_cons.mpr ⟨zj_160, List.forall_mem_cons.mpr ⟨zj_161, List.forall_mem_cons.mpr ⟨zj_162, List.forall_mem_cons.mpr ⟨zj_163, List.forall_mem_cons.mpr ⟨zj_164, List.forall_mem_cons.mpr ⟨zj_165, List.forall_mem_cons.mpr ⟨zj_166, List.forall_mem_cons.mpr ⟨zj_167, List.forall_mem_cons.mpr ⟨zj_168, List.forall_mem_cons.mpr ⟨zj_169, List.forall_mem_cons.mpr ⟨zj_170, List.forall_mem_cons.mpr ⟨zj_171, List.forall_mem_cons.mpr ⟨zj_172, List.forall_mem_cons.mpr ⟨zj_173, List.forall_mem_cons.mpr ⟨zj_174, List.forall_mem_cons.mpr ⟨zj_175, fun _ h => absurd h List.not_mem_nil⟩⟩⟩⟩⟩⟩⟩⟩⟩⟩⟩⟩⟩⟩⟩⟩
def zw_T_11 : List Cond := [
  .methodLink RzL 110 yz_L_boxNumberOfCode,
  .instanceMethod yz_L_boxNumberOfCode,
  .code yz_L_boxNumberOfCode cz_L_boxNumberOfCode 4 (some .int),
  .instanceMethod yz_T_dropFirst,
  .code yz_T_dropFirst cz_T_dropFirst 2 (Option.none : Option Jvm.ClassFile.FieldType),
  .methodLink RzT 19 arraycopyName,
  .static arraycopyName,
  .native arraycopyName,
  .instanceMethod yz_B_layDown,
  .code yz_B_layDown cz_B_layDown 4 (Option.none : Option Jvm.ClassFile.FieldType),
  .methodLink RzW 38 yz_L_type,
  .instanceMethod yz_L_type,
  .selects RzL yz_L_type yz_L_type,
  .code yz_L_type cz_L_type 6 (some .int),
  .methodLink RzL 113 yz_L_countWrongTry,
  .instanceMethod yz_L_countWrongTry]
theorem zw_s_11 : ∀ w ∈ zw_T_11, w ∈ lw_tbl := by rw [zw_lt]; exact List.forall_mem_cons.mpr ⟨zj_176, List.forall_mem_cons.mpr ⟨zj_177, List.forall_mem_cons.mpr ⟨zj_178, List.forall_mem_cons.mpr ⟨zj_179, List.forall_mem_cons.mpr ⟨zj_180, List.forall_mem_cons.mpr ⟨zj_181, List.forall_mem_cons.mpr ⟨zj_182, List.forall_mem_cons.mpr ⟨zj_183, List.forall_mem_cons.mpr ⟨zj_184, List.forall_mem_cons.mpr ⟨zj_185, List.forall_mem_cons.mpr ⟨zj_186, List.forall_mem_cons.mpr ⟨zj_187, List.forall_mem_cons.mpr ⟨zj_188, List.forall_mem_cons.mpr ⟨zj_189, List.forall_mem_cons.mpr ⟨zj_190, List.forall_mem_cons.mpr ⟨zj_191, fun _ h => absurd h List.not_mem_nil⟩⟩⟩⟩⟩⟩⟩⟩⟩⟩⟩⟩⟩⟩⟩⟩
def zw_T_12 : List Cond := [
  .code yz_L_countWrongTry cz_L_countWrongTry 3 (Option.none : Option Jvm.ClassFile.FieldType),
  .constantLong RzL 160 300,
  .instanceMethod yz_B_clear,
  .code yz_B_clear cz_B_clear 1 (Option.none : Option Jvm.ClassFile.FieldType),
  .instanceMethod yz_B_beginOpening,
  .code yz_B_beginOpening cz_B_beginOpening 4 (Option.none : Option Jvm.ClassFile.FieldType),
  .methodLink RzW 42 yz_L_code,
  .instanceMethod yz_L_code,
  .selects RzL yz_L_code yz_L_code,
  .code yz_L_code cz_L_code 3 (some .int),
  .methodLink RzW 46 yz_L_door,
  .instanceMethod yz_L_door,
  .selects RzL yz_L_door yz_L_door,
  .code yz_L_door cz_L_door 6 (some .int),
  .static yz_B_isEvent,
  .code yz_B_isEvent cz_B_isEvent 1 (some .boolean)]
theorem zw_s_12 : ∀ w ∈ zw_T_12, w ∈ lw_tbl := by rw [zw_lt]; exact List.forall_mem_cons.mpr ⟨zj_192, List.forall_mem_cons.mpr ⟨zj_193, List.forall_mem_cons.mpr ⟨zj_194, List.forall_mem_cons.mpr ⟨zj_195, List.forall_mem_cons.mpr ⟨zj_196, List.forall_mem_cons.mpr ⟨zj_197, List.forall_mem_cons.mpr ⟨zj_198, List.forall_mem_cons.mpr ⟨zj_199, List.forall_mem_cons.mpr ⟨zj_200, List.forall_mem_cons.mpr ⟨zj_201, List.forall_mem_cons.mpr ⟨zj_202, List.forall_mem_cons.mpr ⟨zj_203, List.forall_mem_cons.mpr ⟨zj_204, List.forall_mem_cons.mpr ⟨zj_205, List.forall_mem_cons.mpr ⟨zj_206, List.forall_mem_cons.mpr ⟨zj_207, fun _ h => absurd h List.not_mem_nil⟩⟩⟩⟩⟩⟩⟩⟩⟩⟩⟩⟩⟩⟩⟩⟩
def zw_T_13 : List Cond := [
  .instanceMethod yz_B_admits,
  .code yz_B_admits cz_B_admits 2 (some .boolean),
  .methodLink RzB 48 yz_B_isUnused,
  .instanceMethod yz_B_undergo,
  .code yz_B_undergo cz_B_undergo 4 (Option.none : Option Jvm.ClassFile.FieldType),
  .methodLink RzB 51 yz_B_beginOpening,
  .methodLink RzW 50 yz_L_tick,
  .instanceMethod yz_L_tick,
  .selects RzL yz_L_tick yz_L_tick,
  .code yz_L_tick cz_L_tick 4 (some .int),
  .methodLink RzW 55 yz_L_take,
  .instanceMethod yz_L_take,
  .selects RzL yz_L_take yz_L_take,
  .code yz_L_take cz_L_take 5 (some .int),
  .methodLink RzW 60 yz_L_item,
  .instanceMethod yz_L_item]
theorem zw_s_13 : ∀ w ∈ zw_T_13, w ∈ lw_tbl := by rw [zw_lt]; exact List.forall_mem_cons.mpr ⟨zj_208, List.forall_mem_cons.mpr ⟨zj_209, List.forall_mem_cons.mpr ⟨zj_210, List.forall_mem_cons.mpr ⟨zj_211, List.forall_mem_cons.mpr ⟨zj_212, List.forall_mem_cons.mpr ⟨zj_213, List.forall_mem_cons.mpr ⟨zj_214, List.forall_mem_cons.mpr ⟨zj_215, List.forall_mem_cons.mpr ⟨zj_216, List.forall_mem_cons.mpr ⟨zj_217, List.forall_mem_cons.mpr ⟨zj_218, List.forall_mem_cons.mpr ⟨zj_219, List.forall_mem_cons.mpr ⟨zj_220, List.forall_mem_cons.mpr ⟨zj_221, List.forall_mem_cons.mpr ⟨zj_222, List.forall_mem_cons.mpr ⟨zj_223, fun _ h => absurd h List.not_mem_nil⟩⟩⟩⟩⟩⟩⟩⟩⟩⟩⟩⟩⟩⟩⟩⟩
def zw_T_14 : List Cond := [
  .selects RzL yz_L_item yz_L_item,
  .code yz_L_item cz_L_item 3 (some .int),
  .methodLink RzW 64 yz_L_freed,
  .instanceMethod yz_L_freed,
  .selects RzL yz_L_freed yz_L_freed,
  .code yz_L_freed cz_L_freed 2 (some .int),
  .classLink RzW 10 RzM,
  .instantiable RzM 18,
  .methodLink RzW 12 yz_M_init,
  .instanceMethod yz_M_init,
  .code yz_M_init cz_M_init 1 (Option.none : Option Jvm.ClassFile.FieldType),
  .methodLink RzM 1 objectInit,
  .fieldLink RzM 45 "LockerRowsModel" "boxes" "I",
  .fieldLink RzM 7 "LockerRowsModel" "sizes" "[I",
  .fieldLink RzM 13 "LockerRowsModel" "doors" "[I",
  .fieldLink RzM 16 "LockerRowsModel" "since" "[J"]
theorem zw_s_14 : ∀ w ∈ zw_T_14, w ∈ lw_tbl := by rw [zw_lt]; exact List.forall_mem_cons.mpr ⟨zj_224, List.forall_mem_cons.mpr ⟨zj_225, List.forall_mem_cons.mpr ⟨zj_226, List.forall_mem_cons.mpr ⟨zj_227, List.forall_mem_cons.mpr ⟨zj_228, List.forall_mem_cons.mpr ⟨zj_229, List.forall_mem_cons.mpr ⟨zj_230, List.forall_mem_cons.mpr ⟨zj_231, List.forall_mem_cons.mpr ⟨zj_232, List.forall_mem_cons.mpr ⟨zj_233, List.forall_mem_cons.mpr ⟨zj_234, List.forall_mem_cons.mpr ⟨zj_235, List.forall_mem_cons.mpr ⟨zj_236, List.forall_mem_cons.mpr ⟨zj_237, List.forall_mem_cons.mpr ⟨zj_238, List.forall_mem_cons.mpr ⟨zj_239, fun _ h => absurd h List.not_mem_nil⟩⟩⟩⟩⟩⟩⟩⟩⟩⟩⟩⟩⟩⟩⟩⟩
def zw_T_15 : List Cond := [
  .fieldLink RzM 20 "LockerRowsModel" "told" "[Z",
  .fieldLink RzM 24 "LockerRowsModel" "items" "[I",
  .fieldLink RzM 27 "LockerRowsModel" "codes" "[I",
  .fieldLink RzM 30 "LockerRowsModel" "lies" "[J",
  .fieldLink RzM 33 "LockerRowsModel" "late" "[Z",
  .fieldLink RzM 36 "LockerRowsModel" "kept" "[J",
  .fieldLink RzM 60 "LockerRowsModel" "time" "J",
  .fieldLink RzM 71 "LockerRowsModel" "alarms" "I",
  .fieldLink RzM 104 "LockerRowsModel" "wrong" "I",
  .fieldLink RzM 93 "LockerRowsModel" "waits" "J",
  .fieldLink RzM 57 "LockerRowsModel" "taped" "I",
  .fieldLink RzM 39 "LockerRowsModel" "tape" "[I",
  .fieldLink RzM 66 "LockerRowsModel" "freed" "I",
  .fieldLink RzM 42 "LockerRowsModel" "free" "[I",
  .lays "LockerRowsModel" "LockerRowsModel" "boxes" "I",
  .laysFinal "LockerRowsModel" "LockerRowsModel" "sizes" "[I"]
theorem zw_s_15 : ∀ w ∈ zw_T_15, w ∈ lw_tbl := by rw [zw_lt]; exact List.forall_mem_cons.mpr ⟨zj_240, List.forall_mem_cons.mpr ⟨zj_241, List.forall_mem_cons.mpr ⟨zj_242, List.forall_mem_cons.mpr ⟨zj_243, List.forall_mem_cons.mpr ⟨zj_244, List.forall_mem_cons.mpr ⟨zj_245, List.forall_mem_cons.mpr ⟨zj_246, List.forall_mem_cons.mpr ⟨zj_247, List.forall_mem_cons.mpr ⟨zj_248, List.forall_mem_cons.mpr ⟨zj_249, List.forall_mem_cons.mpr ⟨zj_250, List.forall_mem_cons.mpr ⟨zj_251, List.forall_mem_cons.mpr ⟨zj_252, List.forall_mem_cons.mpr ⟨zj_253, List.forall_mem_cons.mpr ⟨zj_254, List.forall_mem_cons.mpr ⟨zj_255, fun _ h => absurd h List.not_mem_nil⟩⟩⟩⟩⟩⟩⟩⟩⟩⟩⟩⟩⟩⟩⟩⟩
def zw_T_16 : List Cond := [
  .laysFinal "LockerRowsModel" "LockerRowsModel" "doors" "[I",
  .laysFinal "LockerRowsModel" "LockerRowsModel" "since" "[J",
  .laysFinal "LockerRowsModel" "LockerRowsModel" "told" "[Z",
  .laysFinal "LockerRowsModel" "LockerRowsModel" "items" "[I",
  .laysFinal "LockerRowsModel" "LockerRowsModel" "codes" "[I",
  .laysFinal "LockerRowsModel" "LockerRowsModel" "lies" "[J",
  .laysFinal "LockerRowsModel" "LockerRowsModel" "late" "[Z",
  .laysFinal "LockerRowsModel" "LockerRowsModel" "kept" "[J",
  .lays "LockerRowsModel" "LockerRowsModel" "time" "J",
  .lays "LockerRowsModel" "LockerRowsModel" "alarms" "I",
  .lays "LockerRowsModel" "LockerRowsModel" "wrong" "I",
  .lays "LockerRowsModel" "LockerRowsModel" "waits" "J",
  .lays "LockerRowsModel" "LockerRowsModel" "taped" "I",
  .laysFinal "LockerRowsModel" "LockerRowsModel" "tape" "[I",
  .lays "LockerRowsModel" "LockerRowsModel" "freed" "I",
  .laysFinal "LockerRowsModel" "LockerRowsModel" "free" "[I"]
theorem zw_s_16 : ∀ w ∈ zw_T_16, w ∈ lw_tbl := by rw [zw_lt]; exact List.forall_mem_cons.mpr ⟨zj_256, List.forall_mem_cons.mpr ⟨zj_257, List.forall_mem_cons.mpr ⟨zj_258, List.forall_mem_cons.mpr ⟨zj_259, List.forall_mem_cons.mpr ⟨zj_260, List.forall_mem_cons.mpr ⟨zj_261, List.forall_mem_cons.mpr ⟨zj_262, List.forall_mem_cons.mpr ⟨zj_263, List.forall_mem_cons.mpr ⟨zj_264, List.forall_mem_cons.mpr ⟨zj_265, List.forall_mem_cons.mpr ⟨zj_266, List.forall_mem_cons.mpr ⟨zj_267, List.forall_mem_cons.mpr ⟨zj_268, List.forall_mem_cons.mpr ⟨zj_269, List.forall_mem_cons.mpr ⟨zj_270, List.forall_mem_cons.mpr ⟨zj_271, fun _ h => absurd h List.not_mem_nil⟩⟩⟩⟩⟩⟩⟩⟩⟩⟩⟩⟩⟩⟩⟩⟩
def zw_T_17 : List Cond := [
  .arrayClass .long,
  .arrayClass .boolean,
  .methodLink RzW 17 yz_M_box,
  .instanceMethod yz_M_box,
  .selects RzM yz_M_box yz_M_box,
  .code yz_M_box cz_M_box 2 (some .int),
  .constantLong RzM 53 5,
  .methodLink RzM 49 yz_M_within,
  .static yz_M_within,
  .code yz_M_within cz_M_within 6 (some .boolean),
  .methodLink RzW 21 yz_M_tape,
  .instanceMethod yz_M_tape,
  .selects RzM yz_M_tape yz_M_tape,
  .code yz_M_tape cz_M_tape 2 (some .int),
  .constantLong RzM 55 999999,
  .methodLink RzW 28 yz_M_reserve]
theorem zw_s_17 : ∀ w ∈ zw_T_17, w ∈ lw_tbl := by rw [zw_lt]; exact List.forall_mem_cons.mpr ⟨zj_272, List.forall_mem_cons.mpr ⟨zj_273, List.forall_mem_cons.mpr ⟨zj_274, List.forall_mem_cons.mpr ⟨zj_275, List.forall_mem_cons.mpr ⟨zj_276, List.forall_mem_cons.mpr ⟨zj_277, List.forall_mem_cons.mpr ⟨zj_278, List.forall_mem_cons.mpr ⟨zj_279, List.forall_mem_cons.mpr ⟨zj_280, List.forall_mem_cons.mpr ⟨zj_281, List.forall_mem_cons.mpr ⟨zj_282, List.forall_mem_cons.mpr ⟨zj_283, List.forall_mem_cons.mpr ⟨zj_284, List.forall_mem_cons.mpr ⟨zj_285, List.forall_mem_cons.mpr ⟨zj_286, List.forall_mem_cons.mpr ⟨zj_287, fun _ h => absurd h List.not_mem_nil⟩⟩⟩⟩⟩⟩⟩⟩⟩⟩⟩⟩⟩⟩⟩⟩
def zw_T_18 : List Cond := [
  .instanceMethod yz_M_reserve,
  .selects RzM yz_M_reserve yz_M_reserve,
  .code yz_M_reserve cz_M_reserve 7 (some .int),
  .constantLong RzM 64 2000000000,
  .methodLink RzW 33 yz_M_put,
  .instanceMethod yz_M_put,
  .selects RzM yz_M_put yz_M_put,
  .code yz_M_put cz_M_put 7 (some .int),
  .methodLink RzM 76 yz_M_isBox,
  .instanceMethod yz_M_isBox,
  .code yz_M_isBox cz_M_isBox 2 (some .boolean),
  .constantLong RzM 80 9999,
  .methodLink RzM 82 yz_M_isNoTime,
  .instanceMethod yz_M_isNoTime,
  .code yz_M_isNoTime cz_M_isNoTime 3 (some .boolean),
  .methodLink RzM 86 yz_M_pass]
theorem zw_s_18 : ∀ w ∈ zw_T_18, w ∈ lw_tbl := by rw [zw_lt]; exact List.forall_mem_cons.mpr ⟨zj_288, List.forall_mem_cons.mpr ⟨zj_289, List.forall_mem_cons.mpr ⟨zj_290, List.forall_mem_cons.mpr ⟨zj_291, List.forall_mem_cons.mpr ⟨zj_292, List.forall_mem_cons.mpr ⟨zj_293, List.forall_mem_cons.mpr ⟨zj_294, List.forall_mem_cons.mpr ⟨zj_295, List.forall_mem_cons.mpr ⟨zj_296, List.forall_mem_cons.mpr ⟨zj_297, List.forall_mem_cons.mpr ⟨zj_298, List.forall_mem_cons.mpr ⟨zj_299, List.forall_mem_cons.mpr ⟨zj_300, List.forall_mem_cons.mpr ⟨zj_301, List.forall_mem_cons.mpr ⟨zj_302, List.forall_mem_cons.mpr ⟨zj_303, fun _ h => absurd h List.not_mem_nil⟩⟩⟩⟩⟩⟩⟩⟩⟩⟩⟩⟩⟩⟩⟩⟩
def zw_T_19 : List Cond := [
  .instanceMethod yz_M_pass,
  .code yz_M_pass cz_M_pass 5 (Option.none : Option Jvm.ClassFile.FieldType),
  .constantLong RzM 69 120,
  .constantLong RzM 74 604800,
  .methodLink RzW 37 yz_M_close,
  .instanceMethod yz_M_close,
  .selects RzM yz_M_close yz_M_close,
  .code yz_M_close cz_M_close 7 (some .int),
  .methodLink RzM 90 yz_M_isCode,
  .instanceMethod yz_M_isCode,
  .code yz_M_isCode cz_M_isCode 3 (some .boolean),
  .methodLink RzW 41 yz_M_type,
  .instanceMethod yz_M_type,
  .selects RzM yz_M_type yz_M_type,
  .code yz_M_type cz_M_type 5 (some .int),
  .methodLink RzM 96 yz_M_out]
theorem zw_s_19 : ∀ w ∈ zw_T_19, w ∈ lw_tbl := by rw [zw_lt]; exact List.forall_mem_cons.mpr ⟨zj_304, List.forall_mem_cons.mpr ⟨zj_305, List.forall_mem_cons.mpr ⟨zj_306, List.forall_mem_cons.mpr ⟨zj_307, List.forall_mem_cons.mpr ⟨zj_308, List.forall_mem_cons.mpr ⟨zj_309, List.forall_mem_cons.mpr ⟨zj_310, List.forall_mem_cons.mpr ⟨zj_311, List.forall_mem_cons.mpr ⟨zj_312, List.forall_mem_cons.mpr ⟨zj_313, List.forall_mem_cons.mpr ⟨zj_314, List.forall_mem_cons.mpr ⟨zj_315, List.forall_mem_cons.mpr ⟨zj_316, List.forall_mem_cons.mpr ⟨zj_317, List.forall_mem_cons.mpr ⟨zj_318, List.forall_mem_cons.mpr ⟨zj_319, fun _ h => absurd h List.not_mem_nil⟩⟩⟩⟩⟩⟩⟩⟩⟩⟩⟩⟩⟩⟩⟩⟩
def zw_T_20 : List Cond := [
  .instanceMethod yz_M_out,
  .code yz_M_out cz_M_out 3 (some .int),
  .methodLink RzM 100 yz_M_open,
  .instanceMethod yz_M_open,
  .code yz_M_open cz_M_open 3 (Option.none : Option Jvm.ClassFile.FieldType),
  .constantLong RzM 107 300,
  .methodLink RzW 45 yz_M_code,
  .instanceMethod yz_M_code,
  .selects RzM yz_M_code yz_M_code,
  .code yz_M_code cz_M_code 3 (some .int),
  .methodLink RzW 49 yz_M_door,
  .instanceMethod yz_M_door,
  .selects RzM yz_M_door yz_M_door,
  .code yz_M_door cz_M_door 7 (some .int),
  .constantLong RzM 109 4,
  .methodLink RzW 54 yz_M_tick]
theorem zw_s_20 : ∀ w ∈ zw_T_20, w ∈ lw_tbl := by rw [zw_lt]; exact List.forall_mem_cons.mpr ⟨zj_320, List.forall_mem_cons.mpr ⟨zj_321, List.forall_mem_cons.mpr ⟨zj_322, List.forall_mem_cons.mpr ⟨zj_323, List.forall_mem_cons.mpr ⟨zj_324, List.forall_mem_cons.mpr ⟨zj_325, List.forall_mem_cons.mpr ⟨zj_326, List.forall_mem_cons.mpr ⟨zj_327, List.forall_mem_cons.mpr ⟨zj_328, List.forall_mem_cons.mpr ⟨zj_329, List.forall_mem_cons.mpr ⟨zj_330, List.forall_mem_cons.mpr ⟨zj_331, List.forall_mem_cons.mpr ⟨zj_332, List.forall_mem_cons.mpr ⟨zj_333, List.forall_mem_cons.mpr ⟨zj_334, List.forall_mem_cons.mpr ⟨zj_335, fun _ h => absurd h List.not_mem_nil⟩⟩⟩⟩⟩⟩⟩⟩⟩⟩⟩⟩⟩⟩⟩⟩
def zw_T_21 : List Cond := [
  .instanceMethod yz_M_tick,
  .selects RzM yz_M_tick yz_M_tick,
  .code yz_M_tick cz_M_tick 4 (some .int),
  .methodLink RzW 59 yz_M_take,
  .instanceMethod yz_M_take,
  .selects RzM yz_M_take yz_M_take,
  .code yz_M_take cz_M_take 3 (some .int),
  .constantLong RzM 111 9,
  .methodLink RzW 63 yz_M_item,
  .instanceMethod yz_M_item,
  .selects RzM yz_M_item yz_M_item,
  .code yz_M_item cz_M_item 2 (some .int),
  .methodLink RzW 67 yz_M_freed,
  .instanceMethod yz_M_freed,
  .selects RzM yz_M_freed yz_M_freed,
  .code yz_M_freed cz_M_freed 2 (some .int)]
theorem zw_s_21 : ∀ w ∈ zw_T_21, w ∈ lw_tbl := by rw [zw_lt]; exact List.forall_mem_cons.mpr ⟨zj_336, List.forall_mem_cons.mpr ⟨zj_337, List.forall_mem_cons.mpr ⟨zj_338, List.forall_mem_cons.mpr ⟨zj_339, List.forall_mem_cons.mpr ⟨zj_340, List.forall_mem_cons.mpr ⟨zj_341, List.forall_mem_cons.mpr ⟨zj_342, List.forall_mem_cons.mpr ⟨zj_343, List.forall_mem_cons.mpr ⟨zj_344, List.forall_mem_cons.mpr ⟨zj_345, List.forall_mem_cons.mpr ⟨zj_346, List.forall_mem_cons.mpr ⟨zj_347, List.forall_mem_cons.mpr ⟨zj_348, List.forall_mem_cons.mpr ⟨zj_349, List.forall_mem_cons.mpr ⟨zj_350, List.forall_mem_cons.mpr ⟨zj_351, fun _ h => absurd h List.not_mem_nil⟩⟩⟩⟩⟩⟩⟩⟩⟩⟩⟩⟩⟩⟩⟩⟩
def zw_T_22 : List Cond := [
  .constantLong RzW 22 4294967295]
theorem zw_s_22 : ∀ w ∈ zw_T_22, w ∈ lw_tbl := by rw [zw_lt]; exact List.forall_mem_cons.mpr ⟨zj_352, fun _ h => absurd h List.not_mem_nil⟩
def zw_T : List Cond := zw_T_0 ++ (zw_T_1 ++ (zw_T_2 ++ (zw_T_3 ++ (zw_T_4 ++ (zw_T_5 ++ (zw_T_6 ++ (zw_T_7 ++ (zw_T_8 ++ (zw_T_9 ++ (zw_T_10 ++ (zw_T_11 ++ (zw_T_12 ++ (zw_T_13 ++ (zw_T_14 ++ (zw_T_15 ++ (zw_T_16 ++ (zw_T_17 ++ (zw_T_18 ++ (zw_T_19 ++ (zw_T_20 ++ (zw_T_21 ++ (zw_T_22))))))))))))))))))))))
theorem zw_sub : ∀ w ∈ zw_T, w ∈ lw_tbl := List.forall_mem_append.mpr ⟨zw_s_0, List.forall_mem_append.mpr ⟨zw_s_1, List.forall_mem_append.mpr ⟨zw_s_2, List.forall_mem_append.mpr ⟨zw_s_3, List.forall_mem_append.mpr ⟨zw_s_4, List.forall_mem_append.mpr ⟨zw_s_5, List.forall_mem_append.mpr ⟨zw_s_6, List.forall_mem_append.mpr ⟨zw_s_7, List.forall_mem_append.mpr ⟨zw_s_8, List.forall_mem_append.mpr ⟨zw_s_9, List.forall_mem_append.mpr ⟨zw_s_10, List.forall_mem_append.mpr ⟨zw_s_11, List.forall_mem_append.mpr ⟨zw_s_12, List.forall_mem_append.mpr ⟨zw_s_13, List.forall_mem_append.mpr ⟨zw_s_14, List.forall_mem_append.mpr ⟨zw_s_15, List.forall_mem_append.mpr ⟨zw_s_16, List.forall_mem_append.mpr ⟨zw_s_17, List.forall_mem_append.mpr ⟨zw_s_18, List.forall_mem_append.mpr ⟨zw_s_19, List.forall_mem_append.mpr ⟨zw_s_20, List.forall_mem_append.mpr ⟨zw_s_21, zw_s_22⟩⟩⟩⟩⟩⟩⟩⟩⟩⟩⟩⟩⟩⟩⟩⟩⟩⟩⟩⟩⟩⟩
def zw_ns : List Cond := [
  .arrayOver (.object "LockerRows$Box"),
  .methodLinkNest RzL 21 yz_T_init "LockerRows",
  .methodLinkNest RzL 50 yz_B_init "LockerRows",
  .fieldLinkNest RzL 151 "LockerRows$Box" "size" "I" "LockerRows",
  .fieldLinkNest RzL 87 "LockerRows$Box" "door" "I" "LockerRows",
  .fieldLinkNest RzL 137 "LockerRows$Box" "item" "I" "LockerRows",
  .fieldLinkNest RzL 122 "LockerRows$Box" "code" "I" "LockerRows",
  .fieldLinkNest RzL 140 "LockerRows$Box" "late" "Z" "LockerRows",
  .fieldLinkNest RzL 73 "LockerRows$Box" "keptUntil" "J" "LockerRows",
  .methodLinkNest RzL 56 yz_T_append "LockerRows",
  .methodLinkNest RzL 59 yz_T_length "LockerRows",
  .methodLinkNest RzL 148 yz_B_isUnused "LockerRows",
  .methodLinkNest RzL 162 yz_B_freeIfDue "LockerRows",
  .methodLinkNest RzL 168 yz_B_tellAlarms "LockerRows",
  .methodLinkNest RzL 90 yz_B_isEmpty "LockerRows",
  .methodLinkNest RzL 97 yz_B_receive "LockerRows",
  .methodLinkNest RzL 100 yz_B_wantsCode "LockerRows",
  .methodLinkNest RzL 154 yz_T_at "LockerRows",
  .methodLinkNest RzL 145 yz_B_lies "LockerRows",
  .methodLinkNest RzL 157 yz_T_dropFirst "LockerRows",
  .methodLinkNest RzL 106 yz_B_layDown "LockerRows",
  .methodLinkNest RzL 116 yz_B_clear "LockerRows",
  .methodLinkNest RzL 119 yz_B_beginOpening "LockerRows",
  .methodLinkNest RzL 125 yz_B_isEvent "LockerRows",
  .methodLinkNest RzL 128 yz_B_admits "LockerRows",
  .methodLinkNest RzL 131 yz_B_undergo "LockerRows",
  .methodLinkNest RzL 134 yz_B_isOpenOrForced "LockerRows"]
theorem zi_0 : (.selects RzT yz_T_append yz_T_append : Cond) ∈ zw_T := List.mem_of_getElem? (i := 0) rfl
theorem zi_1 : (.selects RzT yz_T_length yz_T_length : Cond) ∈ zw_T := List.mem_of_getElem? (i := 1) rfl
theorem zi_2 : (.selects RzL yz_L_smallestUnused yz_L_smallestUnused : Cond) ∈ zw_T := List.mem_of_getElem? (i := 2) rfl
theorem zi_3 : (.selects RzL yz_L_boxAt yz_L_boxAt : Cond) ∈ zw_T := List.mem_of_getElem? (i := 3) rfl
theorem zi_4 : (.selects RzB yz_B_isUnused yz_B_isUnused : Cond) ∈ zw_T := List.mem_of_getElem? (i := 4) rfl
theorem zi_5 : (.selects RzB yz_B_isEmpty yz_B_isEmpty : Cond) ∈ zw_T := List.mem_of_getElem? (i := 5) rfl
theorem zi_6 : (.selects RzL yz_L_isTime yz_L_isTime : Cond) ∈ zw_T := List.mem_of_getElem? (i := 6) rfl
theorem zi_7 : (.selects RzL yz_L_passTo yz_L_passTo : Cond) ∈ zw_T := List.mem_of_getElem? (i := 7) rfl
theorem zi_8 : (.selects RzB yz_B_freeIfDue yz_B_freeIfDue : Cond) ∈ zw_T := List.mem_of_getElem? (i := 8) rfl
theorem zi_9 : (.selects RzL yz_L_noteFreed yz_L_noteFreed : Cond) ∈ zw_T := List.mem_of_getElem? (i := 9) rfl
theorem zi_10 : (.selects RzB yz_B_tellAlarms yz_B_tellAlarms : Cond) ∈ zw_T := List.mem_of_getElem? (i := 10) rfl
theorem zi_11 : (.selects RzB yz_B_isOpenOrForced yz_B_isOpenOrForced : Cond) ∈ zw_T := List.mem_of_getElem? (i := 11) rfl
theorem zi_12 : (.selects RzB yz_B_lies yz_B_lies : Cond) ∈ zw_T := List.mem_of_getElem? (i := 12) rfl
theorem zi_13 : (.selects RzL yz_L_boxOfItem yz_L_boxOfItem : Cond) ∈ zw_T := List.mem_of_getElem? (i := 13) rfl
theorem zi_14 : (.selects RzB yz_B_receive yz_B_receive : Cond) ∈ zw_T := List.mem_of_getElem? (i := 14) rfl
theorem zi_15 : (.selects RzB yz_B_wantsCode yz_B_wantsCode : Cond) ∈ zw_T := List.mem_of_getElem? (i := 15) rfl
theorem zi_16 : (.selects RzL yz_L_wantedCode yz_L_wantedCode : Cond) ∈ zw_T := List.mem_of_getElem? (i := 16) rfl
theorem zi_17 : (.selects RzT yz_T_at yz_T_at : Cond) ∈ zw_T := List.mem_of_getElem? (i := 17) rfl
theorem zi_18 : (.selects RzL yz_L_boxNumberOfCode yz_L_boxNumberOfCode : Cond) ∈ zw_T := List.mem_of_getElem? (i := 18) rfl
theorem zi_19 : (.selects RzT yz_T_dropFirst yz_T_dropFirst : Cond) ∈ zw_T := List.mem_of_getElem? (i := 19) rfl
theorem zi_20 : (.selects RzB yz_B_layDown yz_B_layDown : Cond) ∈ zw_T := List.mem_of_getElem? (i := 20) rfl
theorem zi_21 : (.selects RzL yz_L_countWrongTry yz_L_countWrongTry : Cond) ∈ zw_T := List.mem_of_getElem? (i := 21) rfl
theorem zi_22 : (.selects RzB yz_B_clear yz_B_clear : Cond) ∈ zw_T := List.mem_of_getElem? (i := 22) rfl
theorem zi_23 : (.selects RzB yz_B_beginOpening yz_B_beginOpening : Cond) ∈ zw_T := List.mem_of_getElem? (i := 23) rfl
theorem zi_24 : (.selects RzB yz_B_admits yz_B_admits : Cond) ∈ zw_T := List.mem_of_getElem? (i := 24) rfl
theorem zi_25 : (.selects RzB yz_B_undergo yz_B_undergo : Cond) ∈ zw_T := List.mem_of_getElem? (i := 25) rfl
theorem zi_26 : (.selects RzM yz_M_isBox yz_M_isBox : Cond) ∈ zw_T := List.mem_of_getElem? (i := 26) rfl
theorem zi_27 : (.selects RzM yz_M_isNoTime yz_M_isNoTime : Cond) ∈ zw_T := List.mem_of_getElem? (i := 27) rfl
theorem zi_28 : (.selects RzM yz_M_pass yz_M_pass : Cond) ∈ zw_T := List.mem_of_getElem? (i := 28) rfl
theorem zi_29 : (.selects RzM yz_M_isCode yz_M_isCode : Cond) ∈ zw_T := List.mem_of_getElem? (i := 29) rfl
theorem zi_30 : (.selects RzM yz_M_out yz_M_out : Cond) ∈ zw_T := List.mem_of_getElem? (i := 30) rfl
theorem zi_31 : (.selects RzM yz_M_open yz_M_open : Cond) ∈ zw_T := List.mem_of_getElem? (i := 31) rfl
theorem zi_32 : (.initialized RzW : Cond) ∈ zw_T := List.mem_of_getElem? (i := 32) rfl
theorem zi_33 : (.initialized RzL : Cond) ∈ zw_T := List.mem_of_getElem? (i := 33) rfl
theorem zi_34 : (.initialized RzT : Cond) ∈ zw_T := List.mem_of_getElem? (i := 34) rfl
theorem zi_35 : (.initialized RzM : Cond) ∈ zw_T := List.mem_of_getElem? (i := 35) rfl
theorem zi_36 : (.initialized RzB : Cond) ∈ zw_T := List.mem_of_getElem? (i := 36) rfl
theorem zi_37 : (.initialized "java/lang/System" : Cond) ∈ zw_T := List.mem_of_getElem? (i := 37) rfl
theorem zi_38 : (.classLink RzW 7 RzL : Cond) ∈ zw_T := List.mem_of_getElem? (i := 38) rfl
theorem zi_39 : (.instantiable RzL 9 : Cond) ∈ zw_T := List.mem_of_getElem? (i := 39) rfl
theorem zi_40 : (.methodLink RzW 9 yz_L_init : Cond) ∈ zw_T := List.mem_of_getElem? (i := 40) rfl
theorem zi_41 : (.instanceMethod yz_L_init : Cond) ∈ zw_T := List.mem_of_getElem? (i := 41) rfl
theorem zi_42 : (.code yz_L_init cz_L_init 1 (Option.none : Option Jvm.ClassFile.FieldType) : Cond) ∈ zw_T := List.mem_of_getElem? (i := 42) rfl
theorem zi_43 : (.methodLink RzL 1 objectInit : Cond) ∈ zw_T := List.mem_of_getElem? (i := 43) rfl
theorem zi_44 : (.instanceMethod objectInit : Cond) ∈ zw_T := List.mem_of_getElem? (i := 44) rfl
theorem zi_45 : (.code objectInit ⟨#[0xb1]⟩ 1 none : Cond) ∈ zw_T := List.mem_of_getElem? (i := 45) rfl
theorem zi_46 : (.classLink RzL 9 RzB : Cond) ∈ zw_T := List.mem_of_getElem? (i := 46) rfl
theorem zi_47 : (.classLink RzL 19 RzT : Cond) ∈ zw_T := List.mem_of_getElem? (i := 47) rfl
theorem zi_48 : (.instantiable RzT 2 : Cond) ∈ zw_T := List.mem_of_getElem? (i := 48) rfl
theorem zi_49 : (.instanceMethod yz_T_init : Cond) ∈ zw_T := List.mem_of_getElem? (i := 49) rfl
theorem zi_50 : (.code yz_T_init cz_T_init 1 (Option.none : Option Jvm.ClassFile.FieldType) : Cond) ∈ zw_T := List.mem_of_getElem? (i := 50) rfl
theorem zi_51 : (.methodLink RzT 3 objectInit : Cond) ∈ zw_T := List.mem_of_getElem? (i := 51) rfl
theorem zi_52 : (.fieldLink RzT 11 "LockerRows$Tape" "row" "[I" : Cond) ∈ zw_T := List.mem_of_getElem? (i := 52) rfl
theorem zi_53 : (.fieldLink RzT 15 "LockerRows$Tape" "count" "I" : Cond) ∈ zw_T := List.mem_of_getElem? (i := 53) rfl
theorem zi_54 : (.laysFinal "LockerRows$Tape" "LockerRows$Tape" "row" "[I" : Cond) ∈ zw_T := List.mem_of_getElem? (i := 54) rfl
theorem zi_55 : (.lays "LockerRows$Tape" "LockerRows$Tape" "count" "I" : Cond) ∈ zw_T := List.mem_of_getElem? (i := 55) rfl
theorem zi_56 : (.arrayClass .int : Cond) ∈ zw_T := List.mem_of_getElem? (i := 56) rfl
theorem zi_57 : (.fieldLink RzL 11 "LockerRows" "boxes" "[LLockerRows$Box;" : Cond) ∈ zw_T := List.mem_of_getElem? (i := 57) rfl
theorem zi_58 : (.fieldLink RzL 15 "LockerRows" "boxCount" "I" : Cond) ∈ zw_T := List.mem_of_getElem? (i := 58) rfl
theorem zi_59 : (.fieldLink RzL 22 "LockerRows" "numbers" "LLockerRows$Tape;" : Cond) ∈ zw_T := List.mem_of_getElem? (i := 59) rfl
theorem zi_60 : (.fieldLink RzL 26 "LockerRows" "freedBoxes" "[I" : Cond) ∈ zw_T := List.mem_of_getElem? (i := 60) rfl
theorem zi_61 : (.fieldLink RzL 30 "LockerRows" "freedCount" "I" : Cond) ∈ zw_T := List.mem_of_getElem? (i := 61) rfl
theorem zi_62 : (.fieldLink RzL 33 "LockerRows" "time" "J" : Cond) ∈ zw_T := List.mem_of_getElem? (i := 62) rfl
theorem zi_63 : (.fieldLink RzL 37 "LockerRows" "alarms" "I" : Cond) ∈ zw_T := List.mem_of_getElem? (i := 63) rfl
theorem zi_64 : (.fieldLink RzL 40 "LockerRows" "wrongTries" "I" : Cond) ∈ zw_T := List.mem_of_getElem? (i := 64) rfl
theorem zi_65 : (.fieldLink RzL 43 "LockerRows" "keypadWaitsUntil" "J" : Cond) ∈ zw_T := List.mem_of_getElem? (i := 65) rfl
theorem zi_66 : (.laysFinal "LockerRows" "LockerRows" "boxes" "[LLockerRows$Box;" : Cond) ∈ zw_T := List.mem_of_getElem? (i := 66) rfl
theorem zi_67 : (.lays "LockerRows" "LockerRows" "boxCount" "I" : Cond) ∈ zw_T := List.mem_of_getElem? (i := 67) rfl
theorem zi_68 : (.laysFinal "LockerRows" "LockerRows" "numbers" "LLockerRows$Tape;" : Cond) ∈ zw_T := List.mem_of_getElem? (i := 68) rfl
theorem zi_69 : (.laysFinal "LockerRows" "LockerRows" "freedBoxes" "[I" : Cond) ∈ zw_T := List.mem_of_getElem? (i := 69) rfl
theorem zi_70 : (.lays "LockerRows" "LockerRows" "freedCount" "I" : Cond) ∈ zw_T := List.mem_of_getElem? (i := 70) rfl
theorem zi_71 : (.lays "LockerRows" "LockerRows" "time" "J" : Cond) ∈ zw_T := List.mem_of_getElem? (i := 71) rfl
theorem zi_72 : (.lays "LockerRows" "LockerRows" "alarms" "I" : Cond) ∈ zw_T := List.mem_of_getElem? (i := 72) rfl
theorem zi_73 : (.lays "LockerRows" "LockerRows" "wrongTries" "I" : Cond) ∈ zw_T := List.mem_of_getElem? (i := 73) rfl
theorem zi_74 : (.lays "LockerRows" "LockerRows" "keypadWaitsUntil" "J" : Cond) ∈ zw_T := List.mem_of_getElem? (i := 74) rfl
theorem zi_75 : (.methodLink RzW 13 yz_L_box : Cond) ∈ zw_T := List.mem_of_getElem? (i := 75) rfl
theorem zi_76 : (.instanceMethod yz_L_box : Cond) ∈ zw_T := List.mem_of_getElem? (i := 76) rfl
theorem zi_77 : (.selects RzL yz_L_box yz_L_box : Cond) ∈ zw_T := List.mem_of_getElem? (i := 77) rfl
theorem zi_78 : (.code yz_L_box cz_L_box 2 (some .int) : Cond) ∈ zw_T := List.mem_of_getElem? (i := 78) rfl
theorem zi_79 : (.methodLink RzL 46 yz_L_isSize : Cond) ∈ zw_T := List.mem_of_getElem? (i := 79) rfl
theorem zi_80 : (.static yz_L_isSize : Cond) ∈ zw_T := List.mem_of_getElem? (i := 80) rfl
theorem zi_81 : (.code yz_L_isSize cz_L_isSize 1 (some .boolean) : Cond) ∈ zw_T := List.mem_of_getElem? (i := 81) rfl
theorem zi_82 : (.instantiable RzB 9 : Cond) ∈ zw_T := List.mem_of_getElem? (i := 82) rfl
theorem zi_83 : (.instanceMethod yz_B_init : Cond) ∈ zw_T := List.mem_of_getElem? (i := 83) rfl
theorem zi_84 : (.code yz_B_init cz_B_init 2 (Option.none : Option Jvm.ClassFile.FieldType) : Cond) ∈ zw_T := List.mem_of_getElem? (i := 84) rfl
theorem zi_85 : (.methodLink RzB 3 objectInit : Cond) ∈ zw_T := List.mem_of_getElem? (i := 85) rfl
theorem zi_86 : (.fieldLink RzB 38 "LockerRows$Box" "size" "I" : Cond) ∈ zw_T := List.mem_of_getElem? (i := 86) rfl
theorem zi_87 : (.fieldLink RzB 9 "LockerRows$Box" "door" "I" : Cond) ∈ zw_T := List.mem_of_getElem? (i := 87) rfl
theorem zi_88 : (.fieldLink RzB 15 "LockerRows$Box" "openSince" "J" : Cond) ∈ zw_T := List.mem_of_getElem? (i := 88) rfl
theorem zi_89 : (.fieldLink RzB 19 "LockerRows$Box" "openingTold" "Z" : Cond) ∈ zw_T := List.mem_of_getElem? (i := 89) rfl
theorem zi_90 : (.fieldLink RzB 23 "LockerRows$Box" "item" "I" : Cond) ∈ zw_T := List.mem_of_getElem? (i := 90) rfl
theorem zi_91 : (.fieldLink RzB 26 "LockerRows$Box" "code" "I" : Cond) ∈ zw_T := List.mem_of_getElem? (i := 91) rfl
theorem zi_92 : (.fieldLink RzB 29 "LockerRows$Box" "liesSince" "J" : Cond) ∈ zw_T := List.mem_of_getElem? (i := 92) rfl
theorem zi_93 : (.fieldLink RzB 32 "LockerRows$Box" "late" "Z" : Cond) ∈ zw_T := List.mem_of_getElem? (i := 93) rfl
theorem zi_94 : (.fieldLink RzB 35 "LockerRows$Box" "keptUntil" "J" : Cond) ∈ zw_T := List.mem_of_getElem? (i := 94) rfl
theorem zi_95 : (.laysFinal "LockerRows$Box" "LockerRows$Box" "size" "I" : Cond) ∈ zw_T := List.mem_of_getElem? (i := 95) rfl
theorem zi_96 : (.lays "LockerRows$Box" "LockerRows$Box" "door" "I" : Cond) ∈ zw_T := List.mem_of_getElem? (i := 96) rfl
theorem zi_97 : (.lays "LockerRows$Box" "LockerRows$Box" "openSince" "J" : Cond) ∈ zw_T := List.mem_of_getElem? (i := 97) rfl
theorem zi_98 : (.lays "LockerRows$Box" "LockerRows$Box" "openingTold" "Z" : Cond) ∈ zw_T := List.mem_of_getElem? (i := 98) rfl
theorem zi_99 : (.lays "LockerRows$Box" "LockerRows$Box" "item" "I" : Cond) ∈ zw_T := List.mem_of_getElem? (i := 99) rfl
theorem zi_100 : (.lays "LockerRows$Box" "LockerRows$Box" "code" "I" : Cond) ∈ zw_T := List.mem_of_getElem? (i := 100) rfl
theorem zi_101 : (.lays "LockerRows$Box" "LockerRows$Box" "liesSince" "J" : Cond) ∈ zw_T := List.mem_of_getElem? (i := 101) rfl
theorem zi_102 : (.lays "LockerRows$Box" "LockerRows$Box" "late" "Z" : Cond) ∈ zw_T := List.mem_of_getElem? (i := 102) rfl
theorem zi_103 : (.lays "LockerRows$Box" "LockerRows$Box" "keptUntil" "J" : Cond) ∈ zw_T := List.mem_of_getElem? (i := 103) rfl
theorem zi_104 : (.methodLink RzW 18 yz_L_tape : Cond) ∈ zw_T := List.mem_of_getElem? (i := 104) rfl
theorem zi_105 : (.instanceMethod yz_L_tape : Cond) ∈ zw_T := List.mem_of_getElem? (i := 105) rfl
theorem zi_106 : (.selects RzL yz_L_tape yz_L_tape : Cond) ∈ zw_T := List.mem_of_getElem? (i := 106) rfl
theorem zi_107 : (.code yz_L_tape cz_L_tape 2 (some .int) : Cond) ∈ zw_T := List.mem_of_getElem? (i := 107) rfl
theorem zi_108 : (.methodLink RzL 53 yz_L_isCode : Cond) ∈ zw_T := List.mem_of_getElem? (i := 108) rfl
theorem zi_109 : (.static yz_L_isCode : Cond) ∈ zw_T := List.mem_of_getElem? (i := 109) rfl
theorem zi_110 : (.code yz_L_isCode cz_L_isCode 1 (some .boolean) : Cond) ∈ zw_T := List.mem_of_getElem? (i := 110) rfl
theorem zi_111 : (.constant RzL 144 999999 : Cond) ∈ zw_T := List.mem_of_getElem? (i := 111) rfl
theorem zi_112 : (.instanceMethod yz_T_append : Cond) ∈ zw_T := List.mem_of_getElem? (i := 112) rfl
theorem zi_113 : (.code yz_T_append cz_T_append 2 (some .boolean) : Cond) ∈ zw_T := List.mem_of_getElem? (i := 113) rfl
theorem zi_114 : (.instanceMethod yz_T_length : Cond) ∈ zw_T := List.mem_of_getElem? (i := 114) rfl
theorem zi_115 : (.code yz_T_length cz_T_length 1 (some .int) : Cond) ∈ zw_T := List.mem_of_getElem? (i := 115) rfl
theorem zi_116 : (.methodLink RzW 24 yz_L_reserve : Cond) ∈ zw_T := List.mem_of_getElem? (i := 116) rfl
theorem zi_117 : (.instanceMethod yz_L_reserve : Cond) ∈ zw_T := List.mem_of_getElem? (i := 117) rfl
theorem zi_118 : (.selects RzL yz_L_reserve yz_L_reserve : Cond) ∈ zw_T := List.mem_of_getElem? (i := 118) rfl
theorem zi_119 : (.code yz_L_reserve cz_L_reserve 6 (some .int) : Cond) ∈ zw_T := List.mem_of_getElem? (i := 119) rfl
theorem zi_120 : (.constantLong RzL 63 2000000000 : Cond) ∈ zw_T := List.mem_of_getElem? (i := 120) rfl
theorem zi_121 : (.methodLink RzL 65 yz_L_smallestUnused : Cond) ∈ zw_T := List.mem_of_getElem? (i := 121) rfl
theorem zi_122 : (.instanceMethod yz_L_smallestUnused : Cond) ∈ zw_T := List.mem_of_getElem? (i := 122) rfl
theorem zi_123 : (.code yz_L_smallestUnused cz_L_smallestUnused 6 (some .int) : Cond) ∈ zw_T := List.mem_of_getElem? (i := 123) rfl
theorem zi_124 : (.methodLink RzL 69 yz_L_boxAt : Cond) ∈ zw_T := List.mem_of_getElem? (i := 124) rfl
theorem zi_125 : (.instanceMethod yz_L_boxAt : Cond) ∈ zw_T := List.mem_of_getElem? (i := 125) rfl
theorem zi_126 : (.code yz_L_boxAt cz_L_boxAt 2 (some (.object "LockerRows$Box")) : Cond) ∈ zw_T := List.mem_of_getElem? (i := 126) rfl
theorem zi_127 : (.instanceMethod yz_B_isUnused : Cond) ∈ zw_T := List.mem_of_getElem? (i := 127) rfl
theorem zi_128 : (.code yz_B_isUnused cz_B_isUnused 1 (some .boolean) : Cond) ∈ zw_T := List.mem_of_getElem? (i := 128) rfl
theorem zi_129 : (.methodLink RzB 41 yz_B_isEmpty : Cond) ∈ zw_T := List.mem_of_getElem? (i := 129) rfl
theorem zi_130 : (.instanceMethod yz_B_isEmpty : Cond) ∈ zw_T := List.mem_of_getElem? (i := 130) rfl
theorem zi_131 : (.code yz_B_isEmpty cz_B_isEmpty 1 (some .boolean) : Cond) ∈ zw_T := List.mem_of_getElem? (i := 131) rfl
theorem zi_132 : (.methodLink RzW 29 yz_L_put : Cond) ∈ zw_T := List.mem_of_getElem? (i := 132) rfl
theorem zi_133 : (.instanceMethod yz_L_put : Cond) ∈ zw_T := List.mem_of_getElem? (i := 133) rfl
theorem zi_134 : (.selects RzL yz_L_put yz_L_put : Cond) ∈ zw_T := List.mem_of_getElem? (i := 134) rfl
theorem zi_135 : (.code yz_L_put cz_L_put 6 (some .int) : Cond) ∈ zw_T := List.mem_of_getElem? (i := 135) rfl
theorem zi_136 : (.methodLink RzL 76 yz_L_isItem : Cond) ∈ zw_T := List.mem_of_getElem? (i := 136) rfl
theorem zi_137 : (.static yz_L_isItem : Cond) ∈ zw_T := List.mem_of_getElem? (i := 137) rfl
theorem zi_138 : (.code yz_L_isItem cz_L_isItem 1 (some .boolean) : Cond) ∈ zw_T := List.mem_of_getElem? (i := 138) rfl
theorem zi_139 : (.methodLink RzL 79 yz_L_isTime : Cond) ∈ zw_T := List.mem_of_getElem? (i := 139) rfl
theorem zi_140 : (.instanceMethod yz_L_isTime : Cond) ∈ zw_T := List.mem_of_getElem? (i := 140) rfl
theorem zi_141 : (.code yz_L_isTime cz_L_isTime 3 (some .boolean) : Cond) ∈ zw_T := List.mem_of_getElem? (i := 141) rfl
theorem zi_142 : (.methodLink RzL 83 yz_L_passTo : Cond) ∈ zw_T := List.mem_of_getElem? (i := 142) rfl
theorem zi_143 : (.instanceMethod yz_L_passTo : Cond) ∈ zw_T := List.mem_of_getElem? (i := 143) rfl
theorem zi_144 : (.code yz_L_passTo cz_L_passTo 5 (Option.none : Option Jvm.ClassFile.FieldType) : Cond) ∈ zw_T := List.mem_of_getElem? (i := 144) rfl
theorem zi_145 : (.instanceMethod yz_B_freeIfDue : Cond) ∈ zw_T := List.mem_of_getElem? (i := 145) rfl
theorem zi_146 : (.code yz_B_freeIfDue cz_B_freeIfDue 3 (some .boolean) : Cond) ∈ zw_T := List.mem_of_getElem? (i := 146) rfl
theorem zi_147 : (.methodLink RzL 165 yz_L_noteFreed : Cond) ∈ zw_T := List.mem_of_getElem? (i := 147) rfl
theorem zi_148 : (.instanceMethod yz_L_noteFreed : Cond) ∈ zw_T := List.mem_of_getElem? (i := 148) rfl
theorem zi_149 : (.code yz_L_noteFreed cz_L_noteFreed 2 (Option.none : Option Jvm.ClassFile.FieldType) : Cond) ∈ zw_T := List.mem_of_getElem? (i := 149) rfl
theorem zi_150 : (.instanceMethod yz_B_tellAlarms : Cond) ∈ zw_T := List.mem_of_getElem? (i := 150) rfl
theorem zi_151 : (.code yz_B_tellAlarms cz_B_tellAlarms 4 (some .int) : Cond) ∈ zw_T := List.mem_of_getElem? (i := 151) rfl
theorem zi_152 : (.methodLink RzB 55 yz_B_isOpenOrForced : Cond) ∈ zw_T := List.mem_of_getElem? (i := 152) rfl
theorem zi_153 : (.instanceMethod yz_B_isOpenOrForced : Cond) ∈ zw_T := List.mem_of_getElem? (i := 153) rfl
theorem zi_154 : (.code yz_B_isOpenOrForced cz_B_isOpenOrForced 1 (some .boolean) : Cond) ∈ zw_T := List.mem_of_getElem? (i := 154) rfl
theorem zi_155 : (.constantLong RzB 58 120 : Cond) ∈ zw_T := List.mem_of_getElem? (i := 155) rfl
theorem zi_156 : (.methodLink RzB 45 yz_B_lies : Cond) ∈ zw_T := List.mem_of_getElem? (i := 156) rfl
theorem zi_157 : (.instanceMethod yz_B_lies : Cond) ∈ zw_T := List.mem_of_getElem? (i := 157) rfl
theorem zi_158 : (.code yz_B_lies cz_B_lies 1 (some .boolean) : Cond) ∈ zw_T := List.mem_of_getElem? (i := 158) rfl
theorem zi_159 : (.constantLong RzB 60 604800 : Cond) ∈ zw_T := List.mem_of_getElem? (i := 159) rfl
theorem zi_160 : (.methodLink RzL 94 yz_L_boxOfItem : Cond) ∈ zw_T := List.mem_of_getElem? (i := 160) rfl
theorem zi_161 : (.instanceMethod yz_L_boxOfItem : Cond) ∈ zw_T := List.mem_of_getElem? (i := 161) rfl
theorem zi_162 : (.code yz_L_boxOfItem cz_L_boxOfItem 4 (some (.object "LockerRows$Box")) : Cond) ∈ zw_T := List.mem_of_getElem? (i := 162) rfl
theorem zi_163 : (.instanceMethod yz_B_receive : Cond) ∈ zw_T := List.mem_of_getElem? (i := 163) rfl
theorem zi_164 : (.code yz_B_receive cz_B_receive 2 (Option.none : Option Jvm.ClassFile.FieldType) : Cond) ∈ zw_T := List.mem_of_getElem? (i := 164) rfl
theorem zi_165 : (.methodLink RzW 34 yz_L_close : Cond) ∈ zw_T := List.mem_of_getElem? (i := 165) rfl
theorem zi_166 : (.instanceMethod yz_L_close : Cond) ∈ zw_T := List.mem_of_getElem? (i := 166) rfl
theorem zi_167 : (.selects RzL yz_L_close yz_L_close : Cond) ∈ zw_T := List.mem_of_getElem? (i := 167) rfl
theorem zi_168 : (.code yz_L_close cz_L_close 6 (some .int) : Cond) ∈ zw_T := List.mem_of_getElem? (i := 168) rfl
theorem zi_169 : (.instanceMethod yz_B_wantsCode : Cond) ∈ zw_T := List.mem_of_getElem? (i := 169) rfl
theorem zi_170 : (.code yz_B_wantsCode cz_B_wantsCode 1 (some .boolean) : Cond) ∈ zw_T := List.mem_of_getElem? (i := 170) rfl
theorem zi_171 : (.methodLink RzL 103 yz_L_wantedCode : Cond) ∈ zw_T := List.mem_of_getElem? (i := 171) rfl
theorem zi_172 : (.instanceMethod yz_L_wantedCode : Cond) ∈ zw_T := List.mem_of_getElem? (i := 172) rfl
theorem zi_173 : (.code yz_L_wantedCode cz_L_wantedCode 3 (some .int) : Cond) ∈ zw_T := List.mem_of_getElem? (i := 173) rfl
theorem zi_174 : (.instanceMethod yz_T_at : Cond) ∈ zw_T := List.mem_of_getElem? (i := 174) rfl
theorem zi_175 : (.code yz_T_at cz_T_at 2 (some .int) : Cond) ∈ zw_T := List.mem_of_getElem? (i := 175) rfl
theorem zi_176 : (.methodLink RzL 110 yz_L_boxNumberOfCode : Cond) ∈ zw_T := List.mem_of_getElem? (i := 176) rfl
theorem zi_177 : (.instanceMethod yz_L_boxNumberOfCode : Cond) ∈ zw_T := List.mem_of_getElem? (i := 177) rfl
theorem zi_178 : (.code yz_L_boxNumberOfCode cz_L_boxNumberOfCode 4 (some .int) : Cond) ∈ zw_T := List.mem_of_getElem? (i := 178) rfl
theorem zi_179 : (.instanceMethod yz_T_dropFirst : Cond) ∈ zw_T := List.mem_of_getElem? (i := 179) rfl
theorem zi_180 : (.code yz_T_dropFirst cz_T_dropFirst 2 (Option.none : Option Jvm.ClassFile.FieldType) : Cond) ∈ zw_T := List.mem_of_getElem? (i := 180) rfl
theorem zi_181 : (.methodLink RzT 19 arraycopyName : Cond) ∈ zw_T := List.mem_of_getElem? (i := 181) rfl
theorem zi_182 : (.static arraycopyName : Cond) ∈ zw_T := List.mem_of_getElem? (i := 182) rfl
theorem zi_183 : (.native arraycopyName : Cond) ∈ zw_T := List.mem_of_getElem? (i := 183) rfl
theorem zi_184 : (.instanceMethod yz_B_layDown : Cond) ∈ zw_T := List.mem_of_getElem? (i := 184) rfl
theorem zi_185 : (.code yz_B_layDown cz_B_layDown 4 (Option.none : Option Jvm.ClassFile.FieldType) : Cond) ∈ zw_T := List.mem_of_getElem? (i := 185) rfl
theorem zi_186 : (.methodLink RzW 38 yz_L_type : Cond) ∈ zw_T := List.mem_of_getElem? (i := 186) rfl
theorem zi_187 : (.instanceMethod yz_L_type : Cond) ∈ zw_T := List.mem_of_getElem? (i := 187) rfl
theorem zi_188 : (.selects RzL yz_L_type yz_L_type : Cond) ∈ zw_T := List.mem_of_getElem? (i := 188) rfl
theorem zi_189 : (.code yz_L_type cz_L_type 6 (some .int) : Cond) ∈ zw_T := List.mem_of_getElem? (i := 189) rfl
theorem zi_190 : (.methodLink RzL 113 yz_L_countWrongTry : Cond) ∈ zw_T := List.mem_of_getElem? (i := 190) rfl
theorem zi_191 : (.instanceMethod yz_L_countWrongTry : Cond) ∈ zw_T := List.mem_of_getElem? (i := 191) rfl
theorem zi_192 : (.code yz_L_countWrongTry cz_L_countWrongTry 3 (Option.none : Option Jvm.ClassFile.FieldType) : Cond) ∈ zw_T := List.mem_of_getElem? (i := 192) rfl
theorem zi_193 : (.constantLong RzL 160 300 : Cond) ∈ zw_T := List.mem_of_getElem? (i := 193) rfl
theorem zi_194 : (.instanceMethod yz_B_clear : Cond) ∈ zw_T := List.mem_of_getElem? (i := 194) rfl
theorem zi_195 : (.code yz_B_clear cz_B_clear 1 (Option.none : Option Jvm.ClassFile.FieldType) : Cond) ∈ zw_T := List.mem_of_getElem? (i := 195) rfl
theorem zi_196 : (.instanceMethod yz_B_beginOpening : Cond) ∈ zw_T := List.mem_of_getElem? (i := 196) rfl
theorem zi_197 : (.code yz_B_beginOpening cz_B_beginOpening 4 (Option.none : Option Jvm.ClassFile.FieldType) : Cond) ∈ zw_T := List.mem_of_getElem? (i := 197) rfl
theorem zi_198 : (.methodLink RzW 42 yz_L_code : Cond) ∈ zw_T := List.mem_of_getElem? (i := 198) rfl
theorem zi_199 : (.instanceMethod yz_L_code : Cond) ∈ zw_T := List.mem_of_getElem? (i := 199) rfl
theorem zi_200 : (.selects RzL yz_L_code yz_L_code : Cond) ∈ zw_T := List.mem_of_getElem? (i := 200) rfl
theorem zi_201 : (.code yz_L_code cz_L_code 3 (some .int) : Cond) ∈ zw_T := List.mem_of_getElem? (i := 201) rfl
theorem zi_202 : (.methodLink RzW 46 yz_L_door : Cond) ∈ zw_T := List.mem_of_getElem? (i := 202) rfl
theorem zi_203 : (.instanceMethod yz_L_door : Cond) ∈ zw_T := List.mem_of_getElem? (i := 203) rfl
theorem zi_204 : (.selects RzL yz_L_door yz_L_door : Cond) ∈ zw_T := List.mem_of_getElem? (i := 204) rfl
theorem zi_205 : (.code yz_L_door cz_L_door 6 (some .int) : Cond) ∈ zw_T := List.mem_of_getElem? (i := 205) rfl
theorem zi_206 : (.static yz_B_isEvent : Cond) ∈ zw_T := List.mem_of_getElem? (i := 206) rfl
theorem zi_207 : (.code yz_B_isEvent cz_B_isEvent 1 (some .boolean) : Cond) ∈ zw_T := List.mem_of_getElem? (i := 207) rfl
theorem zi_208 : (.instanceMethod yz_B_admits : Cond) ∈ zw_T := List.mem_of_getElem? (i := 208) rfl
theorem zi_209 : (.code yz_B_admits cz_B_admits 2 (some .boolean) : Cond) ∈ zw_T := List.mem_of_getElem? (i := 209) rfl
theorem zi_210 : (.methodLink RzB 48 yz_B_isUnused : Cond) ∈ zw_T := List.mem_of_getElem? (i := 210) rfl
theorem zi_211 : (.instanceMethod yz_B_undergo : Cond) ∈ zw_T := List.mem_of_getElem? (i := 211) rfl
theorem zi_212 : (.code yz_B_undergo cz_B_undergo 4 (Option.none : Option Jvm.ClassFile.FieldType) : Cond) ∈ zw_T := List.mem_of_getElem? (i := 212) rfl
theorem zi_213 : (.methodLink RzB 51 yz_B_beginOpening : Cond) ∈ zw_T := List.mem_of_getElem? (i := 213) rfl
theorem zi_214 : (.methodLink RzW 50 yz_L_tick : Cond) ∈ zw_T := List.mem_of_getElem? (i := 214) rfl
theorem zi_215 : (.instanceMethod yz_L_tick : Cond) ∈ zw_T := List.mem_of_getElem? (i := 215) rfl
theorem zi_216 : (.selects RzL yz_L_tick yz_L_tick : Cond) ∈ zw_T := List.mem_of_getElem? (i := 216) rfl
theorem zi_217 : (.code yz_L_tick cz_L_tick 4 (some .int) : Cond) ∈ zw_T := List.mem_of_getElem? (i := 217) rfl
theorem zi_218 : (.methodLink RzW 55 yz_L_take : Cond) ∈ zw_T := List.mem_of_getElem? (i := 218) rfl
theorem zi_219 : (.instanceMethod yz_L_take : Cond) ∈ zw_T := List.mem_of_getElem? (i := 219) rfl
theorem zi_220 : (.selects RzL yz_L_take yz_L_take : Cond) ∈ zw_T := List.mem_of_getElem? (i := 220) rfl
theorem zi_221 : (.code yz_L_take cz_L_take 5 (some .int) : Cond) ∈ zw_T := List.mem_of_getElem? (i := 221) rfl
theorem zi_222 : (.methodLink RzW 60 yz_L_item : Cond) ∈ zw_T := List.mem_of_getElem? (i := 222) rfl
theorem zi_223 : (.instanceMethod yz_L_item : Cond) ∈ zw_T := List.mem_of_getElem? (i := 223) rfl
theorem zi_224 : (.selects RzL yz_L_item yz_L_item : Cond) ∈ zw_T := List.mem_of_getElem? (i := 224) rfl
theorem zi_225 : (.code yz_L_item cz_L_item 3 (some .int) : Cond) ∈ zw_T := List.mem_of_getElem? (i := 225) rfl
theorem zi_226 : (.methodLink RzW 64 yz_L_freed : Cond) ∈ zw_T := List.mem_of_getElem? (i := 226) rfl
theorem zi_227 : (.instanceMethod yz_L_freed : Cond) ∈ zw_T := List.mem_of_getElem? (i := 227) rfl
theorem zi_228 : (.selects RzL yz_L_freed yz_L_freed : Cond) ∈ zw_T := List.mem_of_getElem? (i := 228) rfl
theorem zi_229 : (.code yz_L_freed cz_L_freed 2 (some .int) : Cond) ∈ zw_T := List.mem_of_getElem? (i := 229) rfl
theorem zi_230 : (.classLink RzW 10 RzM : Cond) ∈ zw_T := List.mem_of_getElem? (i := 230) rfl
theorem zi_231 : (.instantiable RzM 18 : Cond) ∈ zw_T := List.mem_of_getElem? (i := 231) rfl
theorem zi_232 : (.methodLink RzW 12 yz_M_init : Cond) ∈ zw_T := List.mem_of_getElem? (i := 232) rfl
theorem zi_233 : (.instanceMethod yz_M_init : Cond) ∈ zw_T := List.mem_of_getElem? (i := 233) rfl
theorem zi_234 : (.code yz_M_init cz_M_init 1 (Option.none : Option Jvm.ClassFile.FieldType) : Cond) ∈ zw_T := List.mem_of_getElem? (i := 234) rfl
theorem zi_235 : (.methodLink RzM 1 objectInit : Cond) ∈ zw_T := List.mem_of_getElem? (i := 235) rfl
theorem zi_236 : (.fieldLink RzM 45 "LockerRowsModel" "boxes" "I" : Cond) ∈ zw_T := List.mem_of_getElem? (i := 236) rfl
theorem zi_237 : (.fieldLink RzM 7 "LockerRowsModel" "sizes" "[I" : Cond) ∈ zw_T := List.mem_of_getElem? (i := 237) rfl
theorem zi_238 : (.fieldLink RzM 13 "LockerRowsModel" "doors" "[I" : Cond) ∈ zw_T := List.mem_of_getElem? (i := 238) rfl
theorem zi_239 : (.fieldLink RzM 16 "LockerRowsModel" "since" "[J" : Cond) ∈ zw_T := List.mem_of_getElem? (i := 239) rfl
theorem zi_240 : (.fieldLink RzM 20 "LockerRowsModel" "told" "[Z" : Cond) ∈ zw_T := List.mem_of_getElem? (i := 240) rfl
theorem zi_241 : (.fieldLink RzM 24 "LockerRowsModel" "items" "[I" : Cond) ∈ zw_T := List.mem_of_getElem? (i := 241) rfl
theorem zi_242 : (.fieldLink RzM 27 "LockerRowsModel" "codes" "[I" : Cond) ∈ zw_T := List.mem_of_getElem? (i := 242) rfl
theorem zi_243 : (.fieldLink RzM 30 "LockerRowsModel" "lies" "[J" : Cond) ∈ zw_T := List.mem_of_getElem? (i := 243) rfl
theorem zi_244 : (.fieldLink RzM 33 "LockerRowsModel" "late" "[Z" : Cond) ∈ zw_T := List.mem_of_getElem? (i := 244) rfl
theorem zi_245 : (.fieldLink RzM 36 "LockerRowsModel" "kept" "[J" : Cond) ∈ zw_T := List.mem_of_getElem? (i := 245) rfl
theorem zi_246 : (.fieldLink RzM 60 "LockerRowsModel" "time" "J" : Cond) ∈ zw_T := List.mem_of_getElem? (i := 246) rfl
theorem zi_247 : (.fieldLink RzM 71 "LockerRowsModel" "alarms" "I" : Cond) ∈ zw_T := List.mem_of_getElem? (i := 247) rfl
theorem zi_248 : (.fieldLink RzM 104 "LockerRowsModel" "wrong" "I" : Cond) ∈ zw_T := List.mem_of_getElem? (i := 248) rfl
theorem zi_249 : (.fieldLink RzM 93 "LockerRowsModel" "waits" "J" : Cond) ∈ zw_T := List.mem_of_getElem? (i := 249) rfl
theorem zi_250 : (.fieldLink RzM 57 "LockerRowsModel" "taped" "I" : Cond) ∈ zw_T := List.mem_of_getElem? (i := 250) rfl
theorem zi_251 : (.fieldLink RzM 39 "LockerRowsModel" "tape" "[I" : Cond) ∈ zw_T := List.mem_of_getElem? (i := 251) rfl
theorem zi_252 : (.fieldLink RzM 66 "LockerRowsModel" "freed" "I" : Cond) ∈ zw_T := List.mem_of_getElem? (i := 252) rfl
theorem zi_253 : (.fieldLink RzM 42 "LockerRowsModel" "free" "[I" : Cond) ∈ zw_T := List.mem_of_getElem? (i := 253) rfl
theorem zi_254 : (.lays "LockerRowsModel" "LockerRowsModel" "boxes" "I" : Cond) ∈ zw_T := List.mem_of_getElem? (i := 254) rfl
theorem zi_255 : (.laysFinal "LockerRowsModel" "LockerRowsModel" "sizes" "[I" : Cond) ∈ zw_T := List.mem_of_getElem? (i := 255) rfl
theorem zi_256 : (.laysFinal "LockerRowsModel" "LockerRowsModel" "doors" "[I" : Cond) ∈ zw_T := List.mem_of_getElem? (i := 256) rfl
theorem zi_257 : (.laysFinal "LockerRowsModel" "LockerRowsModel" "since" "[J" : Cond) ∈ zw_T := List.mem_of_getElem? (i := 257) rfl
theorem zi_258 : (.laysFinal "LockerRowsModel" "LockerRowsModel" "told" "[Z" : Cond) ∈ zw_T := List.mem_of_getElem? (i := 258) rfl
theorem zi_259 : (.laysFinal "LockerRowsModel" "LockerRowsModel" "items" "[I" : Cond) ∈ zw_T := List.mem_of_getElem? (i := 259) rfl
theorem zi_260 : (.laysFinal "LockerRowsModel" "LockerRowsModel" "codes" "[I" : Cond) ∈ zw_T := List.mem_of_getElem? (i := 260) rfl
theorem zi_261 : (.laysFinal "LockerRowsModel" "LockerRowsModel" "lies" "[J" : Cond) ∈ zw_T := List.mem_of_getElem? (i := 261) rfl
theorem zi_262 : (.laysFinal "LockerRowsModel" "LockerRowsModel" "late" "[Z" : Cond) ∈ zw_T := List.mem_of_getElem? (i := 262) rfl
theorem zi_263 : (.laysFinal "LockerRowsModel" "LockerRowsModel" "kept" "[J" : Cond) ∈ zw_T := List.mem_of_getElem? (i := 263) rfl
theorem zi_264 : (.lays "LockerRowsModel" "LockerRowsModel" "time" "J" : Cond) ∈ zw_T := List.mem_of_getElem? (i := 264) rfl
theorem zi_265 : (.lays "LockerRowsModel" "LockerRowsModel" "alarms" "I" : Cond) ∈ zw_T := List.mem_of_getElem? (i := 265) rfl
theorem zi_266 : (.lays "LockerRowsModel" "LockerRowsModel" "wrong" "I" : Cond) ∈ zw_T := List.mem_of_getElem? (i := 266) rfl
theorem zi_267 : (.lays "LockerRowsModel" "LockerRowsModel" "waits" "J" : Cond) ∈ zw_T := List.mem_of_getElem? (i := 267) rfl
theorem zi_268 : (.lays "LockerRowsModel" "LockerRowsModel" "taped" "I" : Cond) ∈ zw_T := List.mem_of_getElem? (i := 268) rfl
theorem zi_269 : (.laysFinal "LockerRowsModel" "LockerRowsModel" "tape" "[I" : Cond) ∈ zw_T := List.mem_of_getElem? (i := 269) rfl
theorem zi_270 : (.lays "LockerRowsModel" "LockerRowsModel" "freed" "I" : Cond) ∈ zw_T := List.mem_of_getElem? (i := 270) rfl
theorem zi_271 : (.laysFinal "LockerRowsModel" "LockerRowsModel" "free" "[I" : Cond) ∈ zw_T := List.mem_of_getElem? (i := 271) rfl
theorem zi_272 : (.arrayClass .long : Cond) ∈ zw_T := List.mem_of_getElem? (i := 272) rfl
theorem zi_273 : (.arrayClass .boolean : Cond) ∈ zw_T := List.mem_of_getElem? (i := 273) rfl
theorem zi_274 : (.methodLink RzW 17 yz_M_box : Cond) ∈ zw_T := List.mem_of_getElem? (i := 274) rfl
theorem zi_275 : (.instanceMethod yz_M_box : Cond) ∈ zw_T := List.mem_of_getElem? (i := 275) rfl
theorem zi_276 : (.selects RzM yz_M_box yz_M_box : Cond) ∈ zw_T := List.mem_of_getElem? (i := 276) rfl
theorem zi_277 : (.code yz_M_box cz_M_box 2 (some .int) : Cond) ∈ zw_T := List.mem_of_getElem? (i := 277) rfl
theorem zi_278 : (.constantLong RzM 53 5 : Cond) ∈ zw_T := List.mem_of_getElem? (i := 278) rfl
theorem zi_279 : (.methodLink RzM 49 yz_M_within : Cond) ∈ zw_T := List.mem_of_getElem? (i := 279) rfl
theorem zi_280 : (.static yz_M_within : Cond) ∈ zw_T := List.mem_of_getElem? (i := 280) rfl
theorem zi_281 : (.code yz_M_within cz_M_within 6 (some .boolean) : Cond) ∈ zw_T := List.mem_of_getElem? (i := 281) rfl
theorem zi_282 : (.methodLink RzW 21 yz_M_tape : Cond) ∈ zw_T := List.mem_of_getElem? (i := 282) rfl
theorem zi_283 : (.instanceMethod yz_M_tape : Cond) ∈ zw_T := List.mem_of_getElem? (i := 283) rfl
theorem zi_284 : (.selects RzM yz_M_tape yz_M_tape : Cond) ∈ zw_T := List.mem_of_getElem? (i := 284) rfl
theorem zi_285 : (.code yz_M_tape cz_M_tape 2 (some .int) : Cond) ∈ zw_T := List.mem_of_getElem? (i := 285) rfl
theorem zi_286 : (.constantLong RzM 55 999999 : Cond) ∈ zw_T := List.mem_of_getElem? (i := 286) rfl
theorem zi_287 : (.methodLink RzW 28 yz_M_reserve : Cond) ∈ zw_T := List.mem_of_getElem? (i := 287) rfl
theorem zi_288 : (.instanceMethod yz_M_reserve : Cond) ∈ zw_T := List.mem_of_getElem? (i := 288) rfl
theorem zi_289 : (.selects RzM yz_M_reserve yz_M_reserve : Cond) ∈ zw_T := List.mem_of_getElem? (i := 289) rfl
theorem zi_290 : (.code yz_M_reserve cz_M_reserve 7 (some .int) : Cond) ∈ zw_T := List.mem_of_getElem? (i := 290) rfl
theorem zi_291 : (.constantLong RzM 64 2000000000 : Cond) ∈ zw_T := List.mem_of_getElem? (i := 291) rfl
theorem zi_292 : (.methodLink RzW 33 yz_M_put : Cond) ∈ zw_T := List.mem_of_getElem? (i := 292) rfl
theorem zi_293 : (.instanceMethod yz_M_put : Cond) ∈ zw_T := List.mem_of_getElem? (i := 293) rfl
theorem zi_294 : (.selects RzM yz_M_put yz_M_put : Cond) ∈ zw_T := List.mem_of_getElem? (i := 294) rfl
theorem zi_295 : (.code yz_M_put cz_M_put 7 (some .int) : Cond) ∈ zw_T := List.mem_of_getElem? (i := 295) rfl
theorem zi_296 : (.methodLink RzM 76 yz_M_isBox : Cond) ∈ zw_T := List.mem_of_getElem? (i := 296) rfl
theorem zi_297 : (.instanceMethod yz_M_isBox : Cond) ∈ zw_T := List.mem_of_getElem? (i := 297) rfl
theorem zi_298 : (.code yz_M_isBox cz_M_isBox 2 (some .boolean) : Cond) ∈ zw_T := List.mem_of_getElem? (i := 298) rfl
theorem zi_299 : (.constantLong RzM 80 9999 : Cond) ∈ zw_T := List.mem_of_getElem? (i := 299) rfl
theorem zi_300 : (.methodLink RzM 82 yz_M_isNoTime : Cond) ∈ zw_T := List.mem_of_getElem? (i := 300) rfl
theorem zi_301 : (.instanceMethod yz_M_isNoTime : Cond) ∈ zw_T := List.mem_of_getElem? (i := 301) rfl
theorem zi_302 : (.code yz_M_isNoTime cz_M_isNoTime 3 (some .boolean) : Cond) ∈ zw_T := List.mem_of_getElem? (i := 302) rfl
theorem zi_303 : (.methodLink RzM 86 yz_M_pass : Cond) ∈ zw_T := List.mem_of_getElem? (i := 303) rfl
theorem zi_304 : (.instanceMethod yz_M_pass : Cond) ∈ zw_T := List.mem_of_getElem? (i := 304) rfl
theorem zi_305 : (.code yz_M_pass cz_M_pass 5 (Option.none : Option Jvm.ClassFile.FieldType) : Cond) ∈ zw_T := List.mem_of_getElem? (i := 305) rfl
theorem zi_306 : (.constantLong RzM 69 120 : Cond) ∈ zw_T := List.mem_of_getElem? (i := 306) rfl
theorem zi_307 : (.constantLong RzM 74 604800 : Cond) ∈ zw_T := List.mem_of_getElem? (i := 307) rfl
theorem zi_308 : (.methodLink RzW 37 yz_M_close : Cond) ∈ zw_T := List.mem_of_getElem? (i := 308) rfl
theorem zi_309 : (.instanceMethod yz_M_close : Cond) ∈ zw_T := List.mem_of_getElem? (i := 309) rfl
theorem zi_310 : (.selects RzM yz_M_close yz_M_close : Cond) ∈ zw_T := List.mem_of_getElem? (i := 310) rfl
theorem zi_311 : (.code yz_M_close cz_M_close 7 (some .int) : Cond) ∈ zw_T := List.mem_of_getElem? (i := 311) rfl
theorem zi_312 : (.methodLink RzM 90 yz_M_isCode : Cond) ∈ zw_T := List.mem_of_getElem? (i := 312) rfl
theorem zi_313 : (.instanceMethod yz_M_isCode : Cond) ∈ zw_T := List.mem_of_getElem? (i := 313) rfl
theorem zi_314 : (.code yz_M_isCode cz_M_isCode 3 (some .boolean) : Cond) ∈ zw_T := List.mem_of_getElem? (i := 314) rfl
theorem zi_315 : (.methodLink RzW 41 yz_M_type : Cond) ∈ zw_T := List.mem_of_getElem? (i := 315) rfl
theorem zi_316 : (.instanceMethod yz_M_type : Cond) ∈ zw_T := List.mem_of_getElem? (i := 316) rfl
theorem zi_317 : (.selects RzM yz_M_type yz_M_type : Cond) ∈ zw_T := List.mem_of_getElem? (i := 317) rfl
theorem zi_318 : (.code yz_M_type cz_M_type 5 (some .int) : Cond) ∈ zw_T := List.mem_of_getElem? (i := 318) rfl
theorem zi_319 : (.methodLink RzM 96 yz_M_out : Cond) ∈ zw_T := List.mem_of_getElem? (i := 319) rfl
theorem zi_320 : (.instanceMethod yz_M_out : Cond) ∈ zw_T := List.mem_of_getElem? (i := 320) rfl
theorem zi_321 : (.code yz_M_out cz_M_out 3 (some .int) : Cond) ∈ zw_T := List.mem_of_getElem? (i := 321) rfl
theorem zi_322 : (.methodLink RzM 100 yz_M_open : Cond) ∈ zw_T := List.mem_of_getElem? (i := 322) rfl
theorem zi_323 : (.instanceMethod yz_M_open : Cond) ∈ zw_T := List.mem_of_getElem? (i := 323) rfl
theorem zi_324 : (.code yz_M_open cz_M_open 3 (Option.none : Option Jvm.ClassFile.FieldType) : Cond) ∈ zw_T := List.mem_of_getElem? (i := 324) rfl
theorem zi_325 : (.constantLong RzM 107 300 : Cond) ∈ zw_T := List.mem_of_getElem? (i := 325) rfl
theorem zi_326 : (.methodLink RzW 45 yz_M_code : Cond) ∈ zw_T := List.mem_of_getElem? (i := 326) rfl
theorem zi_327 : (.instanceMethod yz_M_code : Cond) ∈ zw_T := List.mem_of_getElem? (i := 327) rfl
theorem zi_328 : (.selects RzM yz_M_code yz_M_code : Cond) ∈ zw_T := List.mem_of_getElem? (i := 328) rfl
theorem zi_329 : (.code yz_M_code cz_M_code 3 (some .int) : Cond) ∈ zw_T := List.mem_of_getElem? (i := 329) rfl
theorem zi_330 : (.methodLink RzW 49 yz_M_door : Cond) ∈ zw_T := List.mem_of_getElem? (i := 330) rfl
theorem zi_331 : (.instanceMethod yz_M_door : Cond) ∈ zw_T := List.mem_of_getElem? (i := 331) rfl
theorem zi_332 : (.selects RzM yz_M_door yz_M_door : Cond) ∈ zw_T := List.mem_of_getElem? (i := 332) rfl
theorem zi_333 : (.code yz_M_door cz_M_door 7 (some .int) : Cond) ∈ zw_T := List.mem_of_getElem? (i := 333) rfl
theorem zi_334 : (.constantLong RzM 109 4 : Cond) ∈ zw_T := List.mem_of_getElem? (i := 334) rfl
theorem zi_335 : (.methodLink RzW 54 yz_M_tick : Cond) ∈ zw_T := List.mem_of_getElem? (i := 335) rfl
theorem zi_336 : (.instanceMethod yz_M_tick : Cond) ∈ zw_T := List.mem_of_getElem? (i := 336) rfl
theorem zi_337 : (.selects RzM yz_M_tick yz_M_tick : Cond) ∈ zw_T := List.mem_of_getElem? (i := 337) rfl
theorem zi_338 : (.code yz_M_tick cz_M_tick 4 (some .int) : Cond) ∈ zw_T := List.mem_of_getElem? (i := 338) rfl
theorem zi_339 : (.methodLink RzW 59 yz_M_take : Cond) ∈ zw_T := List.mem_of_getElem? (i := 339) rfl
theorem zi_340 : (.instanceMethod yz_M_take : Cond) ∈ zw_T := List.mem_of_getElem? (i := 340) rfl
theorem zi_341 : (.selects RzM yz_M_take yz_M_take : Cond) ∈ zw_T := List.mem_of_getElem? (i := 341) rfl
theorem zi_342 : (.code yz_M_take cz_M_take 3 (some .int) : Cond) ∈ zw_T := List.mem_of_getElem? (i := 342) rfl
theorem zi_343 : (.constantLong RzM 111 9 : Cond) ∈ zw_T := List.mem_of_getElem? (i := 343) rfl
theorem zi_344 : (.methodLink RzW 63 yz_M_item : Cond) ∈ zw_T := List.mem_of_getElem? (i := 344) rfl
theorem zi_345 : (.instanceMethod yz_M_item : Cond) ∈ zw_T := List.mem_of_getElem? (i := 345) rfl
theorem zi_346 : (.selects RzM yz_M_item yz_M_item : Cond) ∈ zw_T := List.mem_of_getElem? (i := 346) rfl
theorem zi_347 : (.code yz_M_item cz_M_item 2 (some .int) : Cond) ∈ zw_T := List.mem_of_getElem? (i := 347) rfl
theorem zi_348 : (.methodLink RzW 67 yz_M_freed : Cond) ∈ zw_T := List.mem_of_getElem? (i := 348) rfl
theorem zi_349 : (.instanceMethod yz_M_freed : Cond) ∈ zw_T := List.mem_of_getElem? (i := 349) rfl
theorem zi_350 : (.selects RzM yz_M_freed yz_M_freed : Cond) ∈ zw_T := List.mem_of_getElem? (i := 350) rfl
theorem zi_351 : (.code yz_M_freed cz_M_freed 2 (some .int) : Cond) ∈ zw_T := List.mem_of_getElem? (i := 351) rfl
theorem zi_352 : (.constantLong RzW 22 4294967295 : Cond) ∈ zw_T := List.mem_of_getElem? (i := 352) rfl
theorem zn_0 : (.arrayOver (.object "LockerRows$Box") : Cond) ∈ zw_ns := List.mem_of_getElem? (i := 0) rfl
theorem zn_1 : (.methodLinkNest RzL 21 yz_T_init "LockerRows" : Cond) ∈ zw_ns := List.mem_of_getElem? (i := 1) rfl
theorem zn_2 : (.methodLinkNest RzL 50 yz_B_init "LockerRows" : Cond) ∈ zw_ns := List.mem_of_getElem? (i := 2) rfl
theorem zn_3 : (.fieldLinkNest RzL 151 "LockerRows$Box" "size" "I" "LockerRows" : Cond) ∈ zw_ns := List.mem_of_getElem? (i := 3) rfl
theorem zn_4 : (.fieldLinkNest RzL 87 "LockerRows$Box" "door" "I" "LockerRows" : Cond) ∈ zw_ns := List.mem_of_getElem? (i := 4) rfl
theorem zn_5 : (.fieldLinkNest RzL 137 "LockerRows$Box" "item" "I" "LockerRows" : Cond) ∈ zw_ns := List.mem_of_getElem? (i := 5) rfl
theorem zn_6 : (.fieldLinkNest RzL 122 "LockerRows$Box" "code" "I" "LockerRows" : Cond) ∈ zw_ns := List.mem_of_getElem? (i := 6) rfl
theorem zn_7 : (.fieldLinkNest RzL 140 "LockerRows$Box" "late" "Z" "LockerRows" : Cond) ∈ zw_ns := List.mem_of_getElem? (i := 7) rfl
theorem zn_8 : (.fieldLinkNest RzL 73 "LockerRows$Box" "keptUntil" "J" "LockerRows" : Cond) ∈ zw_ns := List.mem_of_getElem? (i := 8) rfl
theorem zn_9 : (.methodLinkNest RzL 56 yz_T_append "LockerRows" : Cond) ∈ zw_ns := List.mem_of_getElem? (i := 9) rfl
theorem zn_10 : (.methodLinkNest RzL 59 yz_T_length "LockerRows" : Cond) ∈ zw_ns := List.mem_of_getElem? (i := 10) rfl
theorem zn_11 : (.methodLinkNest RzL 148 yz_B_isUnused "LockerRows" : Cond) ∈ zw_ns := List.mem_of_getElem? (i := 11) rfl
theorem zn_12 : (.methodLinkNest RzL 162 yz_B_freeIfDue "LockerRows" : Cond) ∈ zw_ns := List.mem_of_getElem? (i := 12) rfl
theorem zn_13 : (.methodLinkNest RzL 168 yz_B_tellAlarms "LockerRows" : Cond) ∈ zw_ns := List.mem_of_getElem? (i := 13) rfl
theorem zn_14 : (.methodLinkNest RzL 90 yz_B_isEmpty "LockerRows" : Cond) ∈ zw_ns := List.mem_of_getElem? (i := 14) rfl
theorem zn_15 : (.methodLinkNest RzL 97 yz_B_receive "LockerRows" : Cond) ∈ zw_ns := List.mem_of_getElem? (i := 15) rfl
theorem zn_16 : (.methodLinkNest RzL 100 yz_B_wantsCode "LockerRows" : Cond) ∈ zw_ns := List.mem_of_getElem? (i := 16) rfl
theorem zn_17 : (.methodLinkNest RzL 154 yz_T_at "LockerRows" : Cond) ∈ zw_ns := List.mem_of_getElem? (i := 17) rfl
theorem zn_18 : (.methodLinkNest RzL 145 yz_B_lies "LockerRows" : Cond) ∈ zw_ns := List.mem_of_getElem? (i := 18) rfl
theorem zn_19 : (.methodLinkNest RzL 157 yz_T_dropFirst "LockerRows" : Cond) ∈ zw_ns := List.mem_of_getElem? (i := 19) rfl
theorem zn_20 : (.methodLinkNest RzL 106 yz_B_layDown "LockerRows" : Cond) ∈ zw_ns := List.mem_of_getElem? (i := 20) rfl
theorem zn_21 : (.methodLinkNest RzL 116 yz_B_clear "LockerRows" : Cond) ∈ zw_ns := List.mem_of_getElem? (i := 21) rfl
theorem zn_22 : (.methodLinkNest RzL 119 yz_B_beginOpening "LockerRows" : Cond) ∈ zw_ns := List.mem_of_getElem? (i := 22) rfl
theorem zn_23 : (.methodLinkNest RzL 125 yz_B_isEvent "LockerRows" : Cond) ∈ zw_ns := List.mem_of_getElem? (i := 23) rfl
theorem zn_24 : (.methodLinkNest RzL 128 yz_B_admits "LockerRows" : Cond) ∈ zw_ns := List.mem_of_getElem? (i := 24) rfl
theorem zn_25 : (.methodLinkNest RzL 131 yz_B_undergo "LockerRows" : Cond) ∈ zw_ns := List.mem_of_getElem? (i := 25) rfl
theorem zn_26 : (.methodLinkNest RzL 134 yz_B_isOpenOrForced "LockerRows" : Cond) ∈ zw_ns := List.mem_of_getElem? (i := 26) rfl
theorem zw_nsub : ∀ w ∈ zw_ns, w ∈ lw_tbl := by rw [zw_lt]; exact List.forall_mem_cons.mpr ⟨zk_0, List.forall_mem_cons.mpr ⟨zk_1, List.forall_mem_cons.mpr ⟨zk_2, List.forall_mem_cons.mpr ⟨zk_3, List.forall_mem_cons.mpr ⟨zk_4, List.forall_mem_cons.mpr ⟨zk_5, List.forall_mem_cons.mpr ⟨zk_6, List.forall_mem_cons.mpr ⟨zk_7, List.forall_mem_cons.mpr ⟨zk_8, List.forall_mem_cons.mpr ⟨zk_9, List.forall_mem_cons.mpr ⟨zk_10, List.forall_mem_cons.mpr ⟨zk_11, List.forall_mem_cons.mpr ⟨zk_12, List.forall_mem_cons.mpr ⟨zk_13, List.forall_mem_cons.mpr ⟨zk_14, List.forall_mem_cons.mpr ⟨zk_15, List.forall_mem_cons.mpr ⟨zk_16, List.forall_mem_cons.mpr ⟨zk_17, List.forall_mem_cons.mpr ⟨zk_18, List.forall_mem_cons.mpr ⟨zk_19, List.forall_mem_cons.mpr ⟨zk_20, List.forall_mem_cons.mpr ⟨zk_21, List.forall_mem_cons.mpr ⟨zk_22, List.forall_mem_cons.mpr ⟨zk_23, List.forall_mem_cons.mpr ⟨zk_24, List.forall_mem_cons.mpr ⟨zk_25, List.forall_mem_cons.mpr ⟨zk_26, fun _ h => absurd h List.not_mem_nil⟩⟩⟩⟩⟩⟩⟩⟩⟩⟩⟩⟩⟩⟩⟩⟩⟩⟩⟩⟩⟩⟩⟩⟩⟩⟩⟩
set_option maxRecDepth 100000 in
theorem zw_Tgood : zw_T.all goodWord = true := by decide +kernel
set_option maxRecDepth 100000 in
theorem inzB : ∀ w ∈ u_ws RzB TzB 9, w ∈ zw_T := by decide +kernel
set_option maxRecDepth 100000 in
theorem inzT : ∀ w ∈ u_ws RzT TzT 2, w ∈ zw_T := by decide +kernel
set_option maxRecDepth 100000 in
theorem inzL : ∀ w ∈ u_ws RzL TzL 9, w ∈ zw_T := by decide +kernel
set_option maxRecDepth 100000 in
theorem inzM : ∀ w ∈ u_ws RzM TzM 18, w ∈ zw_T := by decide +kernel
def wz_L_init : List Cond := .code yz_L_init cz_L_init 1 (Option.none : Option Jvm.ClassFile.FieldType) :: zw_T
def wz_L_box : List Cond := .code yz_L_box cz_L_box 2 (some .int) :: zw_T
def wz_L_tape : List Cond := .code yz_L_tape cz_L_tape 2 (some .int) :: zw_T
def wz_L_reserve : List Cond := .code yz_L_reserve cz_L_reserve 6 (some .int) :: zw_T
def wz_L_put : List Cond := .code yz_L_put cz_L_put 6 (some .int) :: zw_T
def wz_L_close : List Cond := .code yz_L_close cz_L_close 6 (some .int) :: zw_T
def wz_L_type : List Cond := .code yz_L_type cz_L_type 6 (some .int) :: zw_T
def wz_L_code : List Cond := .code yz_L_code cz_L_code 3 (some .int) :: zw_T
def wz_L_door : List Cond := .code yz_L_door cz_L_door 6 (some .int) :: zw_T
def wz_L_tick : List Cond := .code yz_L_tick cz_L_tick 4 (some .int) :: zw_T
def wz_L_take : List Cond := .code yz_L_take cz_L_take 5 (some .int) :: zw_T
def wz_L_item : List Cond := .code yz_L_item cz_L_item 3 (some .int) :: zw_T
def wz_L_freed : List Cond := .code yz_L_freed cz_L_freed 2 (some .int) :: zw_T
def wz_L_isSize : List Cond := .code yz_L_isSize cz_L_isSize 1 (some .boolean) :: zw_T
def wz_L_isItem : List Cond := .code yz_L_isItem cz_L_isItem 1 (some .boolean) :: zw_T
def wz_L_isCode : List Cond := .code yz_L_isCode cz_L_isCode 1 (some .boolean) :: zw_T
def wz_L_isTime : List Cond := .code yz_L_isTime cz_L_isTime 3 (some .boolean) :: zw_T
def wz_L_boxAt : List Cond := .code yz_L_boxAt cz_L_boxAt 2 (some (.object "LockerRows$Box")) :: zw_T
def wz_L_boxOfItem : List Cond := .code yz_L_boxOfItem cz_L_boxOfItem 4 (some (.object "LockerRows$Box")) :: zw_T
def wz_L_boxNumberOfCode : List Cond := .code yz_L_boxNumberOfCode cz_L_boxNumberOfCode 4 (some .int) :: zw_T
def wz_L_smallestUnused : List Cond := .code yz_L_smallestUnused cz_L_smallestUnused 6 (some .int) :: zw_T
def wz_L_wantedCode : List Cond := .code yz_L_wantedCode cz_L_wantedCode 3 (some .int) :: zw_T
def wz_L_countWrongTry : List Cond := .code yz_L_countWrongTry cz_L_countWrongTry 3 (Option.none : Option Jvm.ClassFile.FieldType) :: zw_T
def wz_L_passTo : List Cond := .code yz_L_passTo cz_L_passTo 5 (Option.none : Option Jvm.ClassFile.FieldType) :: zw_T
def wz_L_noteFreed : List Cond := .code yz_L_noteFreed cz_L_noteFreed 2 (Option.none : Option Jvm.ClassFile.FieldType) :: zw_T
def wz_M_init : List Cond := .code yz_M_init cz_M_init 1 (Option.none : Option Jvm.ClassFile.FieldType) :: zw_T
def wz_M_within : List Cond := .code yz_M_within cz_M_within 6 (some .boolean) :: zw_T
def wz_M_isBox : List Cond := .code yz_M_isBox cz_M_isBox 2 (some .boolean) :: zw_T
def wz_M_box : List Cond := .code yz_M_box cz_M_box 2 (some .int) :: zw_T
def wz_M_tape : List Cond := .code yz_M_tape cz_M_tape 2 (some .int) :: zw_T
def wz_M_isNoTime : List Cond := .code yz_M_isNoTime cz_M_isNoTime 3 (some .boolean) :: zw_T
def wz_M_pass : List Cond := .code yz_M_pass cz_M_pass 5 (Option.none : Option Jvm.ClassFile.FieldType) :: zw_T
def wz_M_reserve : List Cond := .code yz_M_reserve cz_M_reserve 7 (some .int) :: zw_T
def wz_M_put : List Cond := .code yz_M_put cz_M_put 7 (some .int) :: zw_T
def wz_M_isCode : List Cond := .code yz_M_isCode cz_M_isCode 3 (some .boolean) :: zw_T
def wz_M_close : List Cond := .code yz_M_close cz_M_close 7 (some .int) :: zw_T
def wz_M_open : List Cond := .code yz_M_open cz_M_open 3 (Option.none : Option Jvm.ClassFile.FieldType) :: zw_T
def wz_M_out : List Cond := .code yz_M_out cz_M_out 3 (some .int) :: zw_T
def wz_M_type : List Cond := .code yz_M_type cz_M_type 5 (some .int) :: zw_T
def wz_M_code : List Cond := .code yz_M_code cz_M_code 3 (some .int) :: zw_T
def wz_M_door : List Cond := .code yz_M_door cz_M_door 7 (some .int) :: zw_T
def wz_M_tick : List Cond := .code yz_M_tick cz_M_tick 4 (some .int) :: zw_T
def wz_M_take : List Cond := .code yz_M_take cz_M_take 3 (some .int) :: zw_T
def wz_M_item : List Cond := .code yz_M_item cz_M_item 2 (some .int) :: zw_T
def wz_M_freed : List Cond := .code yz_M_freed cz_M_freed 2 (some .int) :: zw_T
def wz_B_init : List Cond := .code yz_B_init cz_B_init 2 (Option.none : Option Jvm.ClassFile.FieldType) :: zw_T
def wz_B_isEvent : List Cond := .code yz_B_isEvent cz_B_isEvent 1 (some .boolean) :: zw_T
def wz_B_isEmpty : List Cond := .code yz_B_isEmpty cz_B_isEmpty 1 (some .boolean) :: zw_T
def wz_B_lies : List Cond := .code yz_B_lies cz_B_lies 1 (some .boolean) :: zw_T
def wz_B_wantsCode : List Cond := .code yz_B_wantsCode cz_B_wantsCode 1 (some .boolean) :: zw_T
def wz_B_isOpenOrForced : List Cond := .code yz_B_isOpenOrForced cz_B_isOpenOrForced 1 (some .boolean) :: zw_T
def wz_B_isUnused : List Cond := .code yz_B_isUnused cz_B_isUnused 1 (some .boolean) :: zw_T
def wz_B_admits : List Cond := .code yz_B_admits cz_B_admits 2 (some .boolean) :: zw_T
def wz_B_undergo : List Cond := .code yz_B_undergo cz_B_undergo 4 (Option.none : Option Jvm.ClassFile.FieldType) :: zw_T
def wz_B_beginOpening : List Cond := .code yz_B_beginOpening cz_B_beginOpening 4 (Option.none : Option Jvm.ClassFile.FieldType) :: zw_T
def wz_B_receive : List Cond := .code yz_B_receive cz_B_receive 2 (Option.none : Option Jvm.ClassFile.FieldType) :: zw_T
def wz_B_layDown : List Cond := .code yz_B_layDown cz_B_layDown 4 (Option.none : Option Jvm.ClassFile.FieldType) :: zw_T
def wz_B_clear : List Cond := .code yz_B_clear cz_B_clear 1 (Option.none : Option Jvm.ClassFile.FieldType) :: zw_T
def wz_B_freeIfDue : List Cond := .code yz_B_freeIfDue cz_B_freeIfDue 3 (some .boolean) :: zw_T
def wz_B_tellAlarms : List Cond := .code yz_B_tellAlarms cz_B_tellAlarms 4 (some .int) :: zw_T
def wz_T_init : List Cond := .code yz_T_init cz_T_init 1 (Option.none : Option Jvm.ClassFile.FieldType) :: zw_T
def wz_T_length : List Cond := .code yz_T_length cz_T_length 1 (some .int) :: zw_T
def wz_T_append : List Cond := .code yz_T_append cz_T_append 2 (some .boolean) :: zw_T
def wz_T_at : List Cond := .code yz_T_at cz_T_at 2 (some .int) :: zw_T
def wz_T_dropFirst : List Cond := .code yz_T_dropFirst cz_T_dropFirst 2 (Option.none : Option Jvm.ClassFile.FieldType) :: zw_T
