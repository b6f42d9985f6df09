section
-- ===== PART A: goes FIRST, ahead of the names: the tables' words, and 'selects' of the private methods out of them =====
/-- a private method of a class that the tables say can be made, by its rows of tables_1 -/
def lw_okq (q : MethodName × Nat) : Prop := (q.1.cls ≠ "java/lang/invoke/MethodHandle" ∧ q.1.cls ≠ "java/lang/invoke/VarHandle") ∧ Cond.instantiable q.1.cls q.2 ∈ tables_1 ∧ Cond.privateMethod q.1 ∈ tables_1 ∧ Cond.instanceMethod q.1 ∈ tables_1
theorem lw_p0 : lw_okq (⟨"LockerRows$Tape", "append", "(I)Z"⟩, 2) := ⟨⟨by decide +kernel, by decide +kernel⟩, List.mem_of_getElem? (i := 17) (by decide +kernel), List.mem_of_getElem? (i := 113) (by decide +kernel), List.mem_of_getElem? (i := 114) (by decide +kernel)⟩
theorem lw_p1 : lw_okq (⟨"LockerRows$Tape", "length", "()I"⟩, 2) := ⟨⟨by decide +kernel, by decide +kernel⟩, List.mem_of_getElem? (i := 17) (by decide +kernel), List.mem_of_getElem? (i := 117) (by decide +kernel), List.mem_of_getElem? (i := 118) (by decide +kernel)⟩
theorem lw_p2 : lw_okq (⟨"LockerRows", "smallestUnused", "(I)I"⟩, 9) := ⟨⟨by decide +kernel, by decide +kernel⟩, List.mem_of_getElem? (i := 7) (by decide +kernel), List.mem_of_getElem? (i := 126) (by decide +kernel), List.mem_of_getElem? (i := 127) (by decide +kernel)⟩
theorem lw_p3 : lw_okq (⟨"LockerRows", "boxAt", "(I)LLockerRows$Box;"⟩, 9) := ⟨⟨by decide +kernel, by decide +kernel⟩, List.mem_of_getElem? (i := 7) (by decide +kernel), List.mem_of_getElem? (i := 130) (by decide +kernel), List.mem_of_getElem? (i := 131) (by decide +kernel)⟩
theorem lw_p4 : lw_okq (⟨"LockerRows$Box", "isUnused", "()Z"⟩, 9) := ⟨⟨by decide +kernel, by decide +kernel⟩, List.mem_of_getElem? (i := 65) (by decide +kernel), List.mem_of_getElem? (i := 134) (by decide +kernel), List.mem_of_getElem? (i := 135) (by decide +kernel)⟩
theorem lw_p5 : lw_okq (⟨"LockerRows$Box", "isEmpty", "()Z"⟩, 9) := ⟨⟨by decide +kernel, by decide +kernel⟩, List.mem_of_getElem? (i := 65) (by decide +kernel), List.mem_of_getElem? (i := 138) (by decide +kernel), List.mem_of_getElem? (i := 139) (by decide +kernel)⟩
theorem lw_p6 : lw_okq (⟨"LockerRows", "isTime", "(J)Z"⟩, 9) := ⟨⟨by decide +kernel, by decide +kernel⟩, List.mem_of_getElem? (i := 7) (by decide +kernel), List.mem_of_getElem? (i := 149) (by decide +kernel), List.mem_of_getElem? (i := 150) (by decide +kernel)⟩
theorem lw_p7 : lw_okq (⟨"LockerRows", "passTo", "(J)V"⟩, 9) := ⟨⟨by decide +kernel, by decide +kernel⟩, List.mem_of_getElem? (i := 7) (by decide +kernel), List.mem_of_getElem? (i := 153) (by decide +kernel), List.mem_of_getElem? (i := 154) (by decide +kernel)⟩
theorem lw_p8 : lw_okq (⟨"LockerRows$Box", "freeIfDue", "(J)Z"⟩, 9) := ⟨⟨by decide +kernel, by decide +kernel⟩, List.mem_of_getElem? (i := 65) (by decide +kernel), List.mem_of_getElem? (i := 157) (by decide +kernel), List.mem_of_getElem? (i := 158) (by decide +kernel)⟩
theorem lw_p9 : lw_okq (⟨"LockerRows", "noteFreed", "(I)V"⟩, 9) := ⟨⟨by decide +kernel, by decide +kernel⟩, List.mem_of_getElem? (i := 7) (by decide +kernel), List.mem_of_getElem? (i := 161) (by decide +kernel), List.mem_of_getElem? (i := 162) (by decide +kernel)⟩
theorem lw_p10 : lw_okq (⟨"LockerRows$Box", "tellAlarms", "(J)I"⟩, 9) := ⟨⟨by decide +kernel, by decide +kernel⟩, List.mem_of_getElem? (i := 65) (by decide +kernel), List.mem_of_getElem? (i := 165) (by decide +kernel), List.mem_of_getElem? (i := 166) (by decide +kernel)⟩
theorem lw_p11 : lw_okq (⟨"LockerRows$Box", "isOpenOrForced", "()Z"⟩, 9) := ⟨⟨by decide +kernel, by decide +kernel⟩, List.mem_of_getElem? (i := 65) (by decide +kernel), List.mem_of_getElem? (i := 169) (by decide +kernel), List.mem_of_getElem? (i := 170) (by decide +kernel)⟩
theorem lw_p12 : lw_okq (⟨"LockerRows$Box", "lies", "()Z"⟩, 9) := ⟨⟨by decide +kernel, by decide +kernel⟩, List.mem_of_getElem? (i := 65) (by decide +kernel), List.mem_of_getElem? (i := 174) (by decide +kernel), List.mem_of_getElem? (i := 175) (by decide +kernel)⟩
theorem lw_p13 : lw_okq (⟨"LockerRows", "boxOfItem", "(I)LLockerRows$Box;"⟩, 9) := ⟨⟨by decide +kernel, by decide +kernel⟩, List.mem_of_getElem? (i := 7) (by decide +kernel), List.mem_of_getElem? (i := 180) (by decide +kernel), List.mem_of_getElem? (i := 181) (by decide +kernel)⟩
theorem lw_p14 : lw_okq (⟨"LockerRows$Box", "receive", "(I)V"⟩, 9) := ⟨⟨by decide +kernel, by decide +kernel⟩, List.mem_of_getElem? (i := 65) (by decide +kernel), List.mem_of_getElem? (i := 184) (by decide +kernel), List.mem_of_getElem? (i := 185) (by decide +kernel)⟩
theorem lw_p15 : lw_okq (⟨"LockerRows$Box", "wantsCode", "()Z"⟩, 9) := ⟨⟨by decide +kernel, by decide +kernel⟩, List.mem_of_getElem? (i := 65) (by decide +kernel), List.mem_of_getElem? (i := 192) (by decide +kernel), List.mem_of_getElem? (i := 193) (by decide +kernel)⟩
def lw_privs_1 : List (MethodName × Nat) := [(⟨"LockerRows$Tape", "append", "(I)Z"⟩, 2), (⟨"LockerRows$Tape", "length", "()I"⟩, 2), (⟨"LockerRows", "smallestUnused", "(I)I"⟩, 9), (⟨"LockerRows", "boxAt", "(I)LLockerRows$Box;"⟩, 9), (⟨"LockerRows$Box", "isUnused", "()Z"⟩, 9), (⟨"LockerRows$Box", "isEmpty", "()Z"⟩, 9), (⟨"LockerRows", "isTime", "(J)Z"⟩, 9), (⟨"LockerRows", "passTo", "(J)V"⟩, 9), (⟨"LockerRows$Box", "freeIfDue", "(J)Z"⟩, 9), (⟨"LockerRows", "noteFreed", "(I)V"⟩, 9), (⟨"LockerRows$Box", "tellAlarms", "(J)I"⟩, 9), (⟨"LockerRows$Box", "isOpenOrForced", "()Z"⟩, 9), (⟨"LockerRows$Box", "lies", "()Z"⟩, 9), (⟨"LockerRows", "boxOfItem", "(I)LLockerRows$Box;"⟩, 9), (⟨"LockerRows$Box", "receive", "(I)V"⟩, 9), (⟨"LockerRows$Box", "wantsCode", "()Z"⟩, 9)]
theorem lw_r1 : ∀ q ∈ lw_privs_1, lw_okq q := List.forall_mem_cons.mpr ⟨lw_p0, List.forall_mem_cons.mpr ⟨lw_p1, List.forall_mem_cons.mpr ⟨lw_p2, List.forall_mem_cons.mpr ⟨lw_p3, List.forall_mem_cons.mpr ⟨lw_p4, List.forall_mem_cons.mpr ⟨lw_p5, List.forall_mem_cons.mpr ⟨lw_p6, List.forall_mem_cons.mpr ⟨lw_p7, List.forall_mem_cons.mpr ⟨lw_p8, List.forall_mem_cons.mpr ⟨lw_p9, List.forall_mem_cons.mpr ⟨lw_p10, List.forall_mem_cons.mpr ⟨lw_p11, List.forall_mem_cons.mpr ⟨lw_p12, List.forall_mem_cons.mpr ⟨lw_p13, List.forall_mem_cons.mpr ⟨lw_p14, List.forall_mem_cons.mpr ⟨lw_p15, fun _ h => absurd h List.not_mem_nil⟩⟩⟩⟩⟩⟩⟩⟩⟩⟩⟩⟩⟩⟩⟩⟩
theorem lw_p16 : lw_okq (⟨"LockerRows", "wantedCode", "()I"⟩, 9) := ⟨⟨by decide +kernel, by decide +kernel⟩, List.mem_of_getElem? (i := 7) (by decide +kernel), List.mem_of_getElem? (i := 196) (by decide +kernel), List.mem_of_getElem? (i := 197) (by decide +kernel)⟩
theorem lw_p17 : lw_okq (⟨"LockerRows$Tape", "at", "(I)I"⟩, 2) := ⟨⟨by decide +kernel, by decide +kernel⟩, List.mem_of_getElem? (i := 17) (by decide +kernel), List.mem_of_getElem? (i := 200) (by decide +kernel), List.mem_of_getElem? (i := 201) (by decide +kernel)⟩
theorem lw_p18 : lw_okq (⟨"LockerRows", "boxNumberOfCode", "(I)I"⟩, 9) := ⟨⟨by decide +kernel, by decide +kernel⟩, List.mem_of_getElem? (i := 7) (by decide +kernel), List.mem_of_getElem? (i := 204) (by decide +kernel), List.mem_of_getElem? (i := 205) (by decide +kernel)⟩
theorem lw_p19 : lw_okq (⟨"LockerRows$Tape", "dropFirst", "(I)V"⟩, 2) := ⟨⟨by decide +kernel, by decide +kernel⟩, List.mem_of_getElem? (i := 17) (by decide +kernel), List.mem_of_getElem? (i := 209) (by decide +kernel), List.mem_of_getElem? (i := 210) (by decide +kernel)⟩
theorem lw_p20 : lw_okq (⟨"LockerRows$Box", "layDown", "(IJ)V"⟩, 9) := ⟨⟨by decide +kernel, by decide +kernel⟩, List.mem_of_getElem? (i := 65) (by decide +kernel), List.mem_of_getElem? (i := 216) (by decide +kernel), List.mem_of_getElem? (i := 217) (by decide +kernel)⟩
theorem lw_p21 : lw_okq (⟨"LockerRows", "countWrongTry", "(J)V"⟩, 9) := ⟨⟨by decide +kernel, by decide +kernel⟩, List.mem_of_getElem? (i := 7) (by decide +kernel), List.mem_of_getElem? (i := 224) (by decide +kernel), List.mem_of_getElem? (i := 225) (by decide +kernel)⟩
theorem lw_p22 : lw_okq (⟨"LockerRows$Box", "clear", "()V"⟩, 9) := ⟨⟨by decide +kernel, by decide +kernel⟩, List.mem_of_getElem? (i := 65) (by decide +kernel), List.mem_of_getElem? (i := 229) (by decide +kernel), List.mem_of_getElem? (i := 230) (by decide +kernel)⟩
theorem lw_p23 : lw_okq (⟨"LockerRows$Box", "beginOpening", "(IJ)V"⟩, 9) := ⟨⟨by decide +kernel, by decide +kernel⟩, List.mem_of_getElem? (i := 65) (by decide +kernel), List.mem_of_getElem? (i := 233) (by decide +kernel), List.mem_of_getElem? (i := 234) (by decide +kernel)⟩
theorem lw_p24 : lw_okq (⟨"LockerRows$Box", "admits", "(I)Z"⟩, 9) := ⟨⟨by decide +kernel, by decide +kernel⟩, List.mem_of_getElem? (i := 65) (by decide +kernel), List.mem_of_getElem? (i := 248) (by decide +kernel), List.mem_of_getElem? (i := 249) (by decide +kernel)⟩
theorem lw_p25 : lw_okq (⟨"LockerRows$Box", "undergo", "(IJ)V"⟩, 9) := ⟨⟨by decide +kernel, by decide +kernel⟩, List.mem_of_getElem? (i := 65) (by decide +kernel), List.mem_of_getElem? (i := 253) (by decide +kernel), List.mem_of_getElem? (i := 254) (by decide +kernel)⟩
theorem lw_p26 : lw_okq (⟨"LockerRowsModel", "isBox", "(I)Z"⟩, 18) := ⟨⟨by decide +kernel, by decide +kernel⟩, List.mem_of_getElem? (i := 275) (by decide +kernel), List.mem_of_getElem? (i := 360) (by decide +kernel), List.mem_of_getElem? (i := 361) (by decide +kernel)⟩
theorem lw_p27 : lw_okq (⟨"LockerRowsModel", "isNoTime", "(J)Z"⟩, 18) := ⟨⟨by decide +kernel, by decide +kernel⟩, List.mem_of_getElem? (i := 275) (by decide +kernel), List.mem_of_getElem? (i := 365) (by decide +kernel), List.mem_of_getElem? (i := 366) (by decide +kernel)⟩
theorem lw_p28 : lw_okq (⟨"LockerRowsModel", "pass", "(J)V"⟩, 18) := ⟨⟨by decide +kernel, by decide +kernel⟩, List.mem_of_getElem? (i := 275) (by decide +kernel), List.mem_of_getElem? (i := 369) (by decide +kernel), List.mem_of_getElem? (i := 370) (by decide +kernel)⟩
theorem lw_p29 : lw_okq (⟨"LockerRowsModel", "isCode", "(I)Z"⟩, 18) := ⟨⟨by decide +kernel, by decide +kernel⟩, List.mem_of_getElem? (i := 275) (by decide +kernel), List.mem_of_getElem? (i := 379) (by decide +kernel), List.mem_of_getElem? (i := 380) (by decide +kernel)⟩
theorem lw_p30 : lw_okq (⟨"LockerRowsModel", "out", "(I)I"⟩, 18) := ⟨⟨by decide +kernel, by decide +kernel⟩, List.mem_of_getElem? (i := 275) (by decide +kernel), List.mem_of_getElem? (i := 387) (by decide +kernel), List.mem_of_getElem? (i := 388) (by decide +kernel)⟩
theorem lw_p31 : lw_okq (⟨"LockerRowsModel", "open", "(II)V"⟩, 18) := ⟨⟨by decide +kernel, by decide +kernel⟩, List.mem_of_getElem? (i := 275) (by decide +kernel), List.mem_of_getElem? (i := 391) (by decide +kernel), List.mem_of_getElem? (i := 392) (by decide +kernel)⟩
def lw_privs_2 : List (MethodName × Nat) := [(⟨"LockerRows", "wantedCode", "()I"⟩, 9), (⟨"LockerRows$Tape", "at", "(I)I"⟩, 2), (⟨"LockerRows", "boxNumberOfCode", "(I)I"⟩, 9), (⟨"LockerRows$Tape", "dropFirst", "(I)V"⟩, 2), (⟨"LockerRows$Box", "layDown", "(IJ)V"⟩, 9), (⟨"LockerRows", "countWrongTry", "(J)V"⟩, 9), (⟨"LockerRows$Box", "clear", "()V"⟩, 9), (⟨"LockerRows$Box", "beginOpening", "(IJ)V"⟩, 9), (⟨"LockerRows$Box", "admits", "(I)Z"⟩, 9), (⟨"LockerRows$Box", "undergo", "(IJ)V"⟩, 9), (⟨"LockerRowsModel", "isBox", "(I)Z"⟩, 18), (⟨"LockerRowsModel", "isNoTime", "(J)Z"⟩, 18), (⟨"LockerRowsModel", "pass", "(J)V"⟩, 18), (⟨"LockerRowsModel", "isCode", "(I)Z"⟩, 18), (⟨"LockerRowsModel", "out", "(I)I"⟩, 18), (⟨"LockerRowsModel", "open", "(II)V"⟩, 18)]
theorem lw_r2 : ∀ q ∈ lw_privs_2, lw_okq q := List.forall_mem_cons.mpr ⟨lw_p16, List.forall_mem_cons.mpr ⟨lw_p17, List.forall_mem_cons.mpr ⟨lw_p18, List.forall_mem_cons.mpr ⟨lw_p19, List.forall_mem_cons.mpr ⟨lw_p20, List.forall_mem_cons.mpr ⟨lw_p21, List.forall_mem_cons.mpr ⟨lw_p22, List.forall_mem_cons.mpr ⟨lw_p23, List.forall_mem_cons.mpr ⟨lw_p24, List.forall_mem_cons.mpr ⟨lw_p25, List.forall_mem_cons.mpr ⟨lw_p26, List.forall_mem_cons.mpr ⟨lw_p27, List.forall_mem_cons.mpr ⟨lw_p28, List.forall_mem_cons.mpr ⟨lw_p29, List.forall_mem_cons.mpr ⟨lw_p30, List.forall_mem_cons.mpr ⟨lw_p31, fun _ h => absurd h List.not_mem_nil⟩⟩⟩⟩⟩⟩⟩⟩⟩⟩⟩⟩⟩⟩⟩⟩
def lw_privs : List (MethodName × Nat) := lw_privs_1 ++ (lw_privs_2)
def lw_tbl : List Cond := k2_sels lw_privs ++ tables_1
theorem lw_privs_ok : ∀ q ∈ lw_privs, lw_okq q := by
  show ∀ q ∈ lw_privs_1 ++ (lw_privs_2), lw_okq q
  exact List.forall_mem_append.mpr ⟨lw_r1, lw_r2⟩
def RzL : String := "LockerRows"
def RzB : String := "LockerRows$Box"
def RzT : String := "LockerRows$Tape"
def RzM : String := "LockerRowsModel"
def RzW : String := "LockerRowsLaw"
def TzB : u_T := fun k => match k with
  | 0 => ("LockerRows$Box", "size", "I", true)
  | 1 => ("LockerRows$Box", "door", "I", false)
  | 2 => ("LockerRows$Box", "openSince", "J", false)
  | 3 => ("LockerRows$Box", "openingTold", "Z", false)
  | 4 => ("LockerRows$Box", "item", "I", false)
  | 5 => ("LockerRows$Box", "code", "I", false)
  | 6 => ("LockerRows$Box", "liesSince", "J", false)
  | 7 => ("LockerRows$Box", "late", "Z", false)
  | _ => ("LockerRows$Box", "keptUntil", "J", false)
def tyzB : Nat → FieldType := fun k => match k with
  | 0 => .int
  | 1 => .int
  | 2 => .long
  | 3 => .boolean
  | 4 => .int
  | 5 => .int
  | 6 => .long
  | 7 => .boolean
  | _ => .long
theorem nmzB : ∀ a, a < 9 → ∀ b, b < 9 → a ≠ b → (TzB a).2.1 ≠ (TzB b).2.1 := by decide +kernel
theorem tyzB_ok : ∀ k, k < 9 → parseFieldDescriptor (TzB k).2.2.1 = some (tyzB k) := by decide +kernel
def TzT : u_T := fun k => match k with
  | 0 => ("LockerRows$Tape", "row", "[I", true)
  | _ => ("LockerRows$Tape", "count", "I", false)
def tyzT : Nat → FieldType := fun k => match k with
  | 0 => .array .int
  | _ => .int
theorem nmzT : ∀ a, a < 2 → ∀ b, b < 2 → a ≠ b → (TzT a).2.1 ≠ (TzT b).2.1 := by decide +kernel
theorem tyzT_ok : ∀ k, k < 2 → parseFieldDescriptor (TzT k).2.2.1 = some (tyzT k) := by decide +kernel
def TzL : u_T := fun k => match k with
  | 0 => ("LockerRows", "boxes", "[LLockerRows$Box;", true)
  | 1 => ("LockerRows", "boxCount", "I", false)
  | 2 => ("LockerRows", "numbers", "LLockerRows$Tape;", true)
  | 3 => ("LockerRows", "freedBoxes", "[I", true)
  | 4 => ("LockerRows", "freedCount", "I", false)
  | 5 => ("LockerRows", "time", "J", false)
  | 6 => ("LockerRows", "alarms", "I", false)
  | 7 => ("LockerRows", "wrongTries", "I", false)
  | _ => ("LockerRows", "keypadWaitsUntil", "J", false)
def tyzL : Nat → FieldType := fun k => match k with
  | 0 => .array (.object "LockerRows$Box")
  | 1 => .int
  | 2 => .object "LockerRows$Tape"
  | 3 => .array .int
  | 4 => .int
  | 5 => .long
  | 6 => .int
  | 7 => .int
  | _ => .long
theorem nmzL : ∀ a, a < 9 → ∀ b, b < 9 → a ≠ b → (TzL a).2.1 ≠ (TzL b).2.1 := by decide +kernel
theorem tyzL_ok : ∀ k, k < 9 → parseFieldDescriptor (TzL k).2.2.1 = some (tyzL k) := by decide +kernel
def TzM : u_T := fun k => match k with
  | 0 => ("LockerRowsModel", "boxes", "I", false)
  | 1 => ("LockerRowsModel", "sizes", "[I", true)
  | 2 => ("LockerRowsModel", "doors", "[I", true)
  | 3 => ("LockerRowsModel", "since", "[J", true)
  | 4 => ("LockerRowsModel", "told", "[Z", true)
  | 5 => ("LockerRowsModel", "items", "[I", true)
  | 6 => ("LockerRowsModel", "codes", "[I", true)
  | 7 => ("LockerRowsModel", "lies", "[J", true)
  | 8 => ("LockerRowsModel", "late", "[Z", true)
  | 9 => ("LockerRowsModel", "kept", "[J", true)
  | 10 => ("LockerRowsModel", "time", "J", false)
  | 11 => ("LockerRowsModel", "alarms", "I", false)
  | 12 => ("LockerRowsModel", "wrong", "I", false)
  | 13 => ("LockerRowsModel", "waits", "J", false)
  | 14 => ("LockerRowsModel", "taped", "I", false)
  | 15 => ("LockerRowsModel", "tape", "[I", true)
  | 16 => ("LockerRowsModel", "freed", "I", false)
  | _ => ("LockerRowsModel", "free", "[I", true)
def tyzM : Nat → FieldType := fun k => match k with
  | 0 => .int
  | 1 => .array .int
  | 2 => .array .int
  | 3 => .array .long
  | 4 => .array .boolean
  | 5 => .array .int
  | 6 => .array .int
  | 7 => .array .long
  | 8 => .array .boolean
  | 9 => .array .long
  | 10 => .long
  | 11 => .int
  | 12 => .int
  | 13 => .long
  | 14 => .int
  | 15 => .array .int
  | 16 => .int
  | _ => .array .int
theorem nmzM : ∀ a, a < 18 → ∀ b, b < 18 → a ≠ b → (TzM a).2.1 ≠ (TzM b).2.1 := by decide +kernel
theorem tyzM_ok : ∀ k, k < 18 → parseFieldDescriptor (TzM k).2.2.1 = some (tyzM k) := by decide +kernel
abbrev vwCl : List vw_C := [(RzB, TzB, 9), (RzT, TzT, 2), (RzL, TzL, 9), (RzM, TzM, 18)]
abbrev cz_L_init : ByteArray := prog_1_method_1_code
def yz_L_init : MethodName := ⟨RzL, "<init>", "()V"⟩
abbrev cz_L_box : ByteArray := prog_1_method_2_code
def yz_L_box : MethodName := ⟨RzL, "box", "(I)I"⟩
abbrev cz_L_tape : ByteArray := prog_1_method_3_code
def yz_L_tape : MethodName := ⟨RzL, "tape", "(I)I"⟩
abbrev cz_L_reserve : ByteArray := prog_1_method_4_code
def yz_L_reserve : MethodName := ⟨RzL, "reserve", "(IJ)I"⟩
abbrev cz_L_put : ByteArray := prog_1_method_5_code
def yz_L_put : MethodName := ⟨RzL, "put", "(IIJ)I"⟩
abbrev cz_L_close : ByteArray := prog_1_method_6_code
def yz_L_close : MethodName := ⟨RzL, "close", "(IJ)I"⟩
abbrev cz_L_type : ByteArray := prog_1_method_7_code
def yz_L_type : MethodName := ⟨RzL, "type", "(IJ)I"⟩
abbrev cz_L_code : ByteArray := prog_1_method_8_code
def yz_L_code : MethodName := ⟨RzL, "code", "(I)I"⟩
abbrev cz_L_door : ByteArray := prog_1_method_9_code
def yz_L_door : MethodName := ⟨RzL, "door", "(IIJ)I"⟩
abbrev cz_L_tick : ByteArray := prog_1_method_10_code
def yz_L_tick : MethodName := ⟨RzL, "tick", "(J)I"⟩
abbrev cz_L_take : ByteArray := prog_1_method_11_code
def yz_L_take : MethodName := ⟨RzL, "take", "(II)I"⟩
abbrev cz_L_item : ByteArray := prog_1_method_12_code
def yz_L_item : MethodName := ⟨RzL, "item", "(I)I"⟩
abbrev cz_L_freed : ByteArray := prog_1_method_13_code
def yz_L_freed : MethodName := ⟨RzL, "freed", "(I)I"⟩
abbrev cz_L_isSize : ByteArray := prog_1_method_14_code
def yz_L_isSize : MethodName := ⟨RzL, "isSize", "(I)Z"⟩
abbrev cz_L_isItem : ByteArray := prog_1_method_15_code
def yz_L_isItem : MethodName := ⟨RzL, "isItem", "(I)Z"⟩
abbrev cz_L_isCode : ByteArray := prog_1_method_16_code
def yz_L_isCode : MethodName := ⟨RzL, "isCode", "(I)Z"⟩
abbrev cz_L_isTime : ByteArray := prog_1_method_17_code
def yz_L_isTime : MethodName := ⟨RzL, "isTime", "(J)Z"⟩
abbrev cz_L_boxAt : ByteArray := prog_1_method_18_code
def yz_L_boxAt : MethodName := ⟨RzL, "boxAt", "(I)LLockerRows$Box;"⟩
abbrev cz_L_boxOfItem : ByteArray := prog_1_method_19_code
def yz_L_boxOfItem : MethodName := ⟨RzL, "boxOfItem", "(I)LLockerRows$Box;"⟩
abbrev cz_L_boxNumberOfCode : ByteArray := prog_1_method_20_code
def yz_L_boxNumberOfCode : MethodName := ⟨RzL, "boxNumberOfCode", "(I)I"⟩
abbrev cz_L_smallestUnused : ByteArray := prog_1_method_21_code
def yz_L_smallestUnused : MethodName := ⟨RzL, "smallestUnused", "(I)I"⟩
abbrev cz_L_wantedCode : ByteArray := prog_1_method_22_code
def yz_L_wantedCode : MethodName := ⟨RzL, "wantedCode", "()I"⟩
abbrev cz_L_countWrongTry : ByteArray := prog_1_method_23_code
def yz_L_countWrongTry : MethodName := ⟨RzL, "countWrongTry", "(J)V"⟩
abbrev cz_L_passTo : ByteArray := prog_1_method_24_code
def yz_L_passTo : MethodName := ⟨RzL, "passTo", "(J)V"⟩
abbrev cz_L_noteFreed : ByteArray := prog_1_method_25_code
def yz_L_noteFreed : MethodName := ⟨RzL, "noteFreed", "(I)V"⟩
abbrev cz_M_init : ByteArray := prog_5_method_1_code
def yz_M_init : MethodName := ⟨RzM, "<init>", "()V"⟩
abbrev cz_M_within : ByteArray := prog_5_method_2_code
def yz_M_within : MethodName := ⟨RzM, "within", "(JJJ)Z"⟩
abbrev cz_M_isBox : ByteArray := prog_5_method_3_code
def yz_M_isBox : MethodName := ⟨RzM, "isBox", "(I)Z"⟩
abbrev cz_M_box : ByteArray := prog_5_method_4_code
def yz_M_box : MethodName := ⟨RzM, "box", "(I)I"⟩
abbrev cz_M_tape : ByteArray := prog_5_method_5_code
def yz_M_tape : MethodName := ⟨RzM, "tape", "(I)I"⟩
abbrev cz_M_isNoTime : ByteArray := prog_5_method_6_code
def yz_M_isNoTime : MethodName := ⟨RzM, "isNoTime", "(J)Z"⟩
abbrev cz_M_pass : ByteArray := prog_5_method_7_code
def yz_M_pass : MethodName := ⟨RzM, "pass", "(J)V"⟩
abbrev cz_M_reserve : ByteArray := prog_5_method_8_code
def yz_M_reserve : MethodName := ⟨RzM, "reserve", "(IJ)I"⟩
abbrev cz_M_put : ByteArray := prog_5_method_9_code
def yz_M_put : MethodName := ⟨RzM, "put", "(IIJ)I"⟩
abbrev cz_M_isCode : ByteArray := prog_5_method_10_code
def yz_M_isCode : MethodName := ⟨RzM, "isCode", "(I)Z"⟩
abbrev cz_M_close : ByteArray := prog_5_method_11_code
def yz_M_close : MethodName := ⟨RzM, "close", "(IJ)I"⟩
abbrev cz_M_open : ByteArray := prog_5_method_12_code
def yz_M_open : MethodName := ⟨RzM, "open", "(II)V"⟩
abbrev cz_M_out : ByteArray := prog_5_method_13_code
def yz_M_out : MethodName := ⟨RzM, "out", "(I)I"⟩
abbrev cz_M_type : ByteArray := prog_5_method_14_code
def yz_M_type : MethodName := ⟨RzM, "type", "(IJ)I"⟩
abbrev cz_M_code : ByteArray := prog_5_method_15_code
def yz_M_code : MethodName := ⟨RzM, "code", "(I)I"⟩
abbrev cz_M_door : ByteArray := prog_5_method_16_code
def yz_M_door : MethodName := ⟨RzM, "door", "(IIJ)I"⟩
abbrev cz_M_tick : ByteArray := prog_5_method_17_code
def yz_M_tick : MethodName := ⟨RzM, "tick", "(J)I"⟩
abbrev cz_M_take : ByteArray := prog_5_method_18_code
def yz_M_take : MethodName := ⟨RzM, "take", "(II)I"⟩
abbrev cz_M_item : ByteArray := prog_5_method_19_code
def yz_M_item : MethodName := ⟨RzM, "item", "(I)I"⟩
abbrev cz_M_freed : ByteArray := prog_5_method_20_code
def yz_M_freed : MethodName := ⟨RzM, "freed", "(I)I"⟩
abbrev cz_B_init : ByteArray := prog_2_method_1_code
def yz_B_init : MethodName := ⟨RzB, "<init>", "(I)V"⟩
abbrev cz_B_isEvent : ByteArray := prog_2_method_2_code
def yz_B_isEvent : MethodName := ⟨RzB, "isEvent", "(I)Z"⟩
abbrev cz_B_isEmpty : ByteArray := prog_2_method_3_code
def yz_B_isEmpty : MethodName := ⟨RzB, "isEmpty", "()Z"⟩
abbrev cz_B_lies : ByteArray := prog_2_method_4_code
def yz_B_lies : MethodName := ⟨RzB, "lies", "()Z"⟩
abbrev cz_B_wantsCode : ByteArray := prog_2_method_5_code
def yz_B_wantsCode : MethodName := ⟨RzB, "wantsCode", "()Z"⟩
abbrev cz_B_isOpenOrForced : ByteArray := prog_2_method_6_code
def yz_B_isOpenOrForced : MethodName := ⟨RzB, "isOpenOrForced", "()Z"⟩
abbrev cz_B_isUnused : ByteArray := prog_2_method_7_code
def yz_B_isUnused : MethodName := ⟨RzB, "isUnused", "()Z"⟩
abbrev cz_B_admits : ByteArray := prog_2_method_8_code
def yz_B_admits : MethodName := ⟨RzB, "admits", "(I)Z"⟩
abbrev cz_B_undergo : ByteArray := prog_2_method_9_code
def yz_B_undergo : MethodName := ⟨RzB, "undergo", "(IJ)V"⟩
abbrev cz_B_beginOpening : ByteArray := prog_2_method_10_code
def yz_B_beginOpening : MethodName := ⟨RzB, "beginOpening", "(IJ)V"⟩
abbrev cz_B_receive : ByteArray := prog_2_method_11_code
def yz_B_receive : MethodName := ⟨RzB, "receive", "(I)V"⟩
abbrev cz_B_layDown : ByteArray := prog_2_method_12_code
def yz_B_layDown : MethodName := ⟨RzB, "layDown", "(IJ)V"⟩
abbrev cz_B_clear : ByteArray := prog_2_method_13_code
def yz_B_clear : MethodName := ⟨RzB, "clear", "()V"⟩
abbrev cz_B_freeIfDue : ByteArray := prog_2_method_14_code
def yz_B_freeIfDue : MethodName := ⟨RzB, "freeIfDue", "(J)Z"⟩
abbrev cz_B_tellAlarms : ByteArray := prog_2_method_15_code
def yz_B_tellAlarms : MethodName := ⟨RzB, "tellAlarms", "(J)I"⟩
abbrev cz_T_init : ByteArray := prog_3_method_1_code
def yz_T_init : MethodName := ⟨RzT, "<init>", "()V"⟩
abbrev cz_T_length : ByteArray := prog_3_method_2_code
def yz_T_length : MethodName := ⟨RzT, "length", "()I"⟩
abbrev cz_T_append : ByteArray := prog_3_method_3_code
def yz_T_append : MethodName := ⟨RzT, "append", "(I)Z"⟩
abbrev cz_T_at : ByteArray := prog_3_method_4_code
def yz_T_at : MethodName := ⟨RzT, "at", "(I)I"⟩
abbrev cz_T_dropFirst : ByteArray := prog_3_method_5_code
def yz_T_dropFirst : MethodName := ⟨RzT, "dropFirst", "(I)V"⟩
abbrev cz_W_law : ByteArray := code
def yz_W_law : MethodName := ⟨RzW, "law", "([I)Z"⟩
theorem zw_lt : lw_tbl = k2_sels lw_privs ++ (tables_1_1 ++ tables_1_2) := rfl
theorem zj_0 : (.selects RzT yz_T_append yz_T_append : Cond) ∈ k2_sels lw_privs ++ (tables_1_1 ++ tables_1_2) := List.mem_append_left _ (List.mem_of_getElem? (i := 0) rfl)
theorem zj_1 : (.selects RzT yz_T_length yz_T_length : Cond) ∈ k2_sels lw_privs ++ (tables_1_1 ++ tables_1_2) := List.mem_append_left _ (List.mem_of_getElem? (i := 1) rfl)
theorem zj_2 : (.selects RzL yz_L_smallestUnused yz_L_smallestUnused : Cond) ∈ k2_sels lw_privs ++ (tables_1_1 ++ tables_1_2) := List.mem_append_left _ (List.mem_of_getElem? (i := 2) rfl)
theorem zj_3 : (.selects RzL yz_L_boxAt yz_L_boxAt : Cond) ∈ k2_sels lw_privs ++ (tables_1_1 ++ tables_1_2) := List.mem_append_left _ (List.mem_of_getElem? (i := 3) rfl)
theorem zj_4 : (.selects RzB yz_B_isUnused yz_B_isUnused : Cond) ∈ k2_sels lw_privs ++ (tables_1_1 ++ tables_1_2) := List.mem_append_left _ (List.mem_of_getElem? (i := 4) rfl)
theorem zj_5 : (.selects RzB yz_B_isEmpty yz_B_isEmpty : Cond) ∈ k2_sels lw_privs ++ (tables_1_1 ++ tables_1_2) := List.mem_append_left _ (List.mem_of_getElem? (i := 5) rfl)
theorem zj_6 : (.selects RzL yz_L_isTime yz_L_isTime : Cond) ∈ k2_sels lw_privs ++ (tables_1_1 ++ tables_1_2) := List.mem_append_left _ (List.mem_of_getElem? (i := 6) rfl)
theorem zj_7 : (.selects RzL yz_L_passTo yz_L_passTo : Cond) ∈ k2_sels lw_privs ++ (tables_1_1 ++ tables_1_2) := List.mem_append_left _ (List.mem_of_getElem? (i := 7) rfl)
theorem zj_8 : (.selects RzB yz_B_freeIfDue yz_B_freeIfDue : Cond) ∈ k2_sels lw_privs ++ (tables_1_1 ++ tables_1_2) := List.mem_append_left _ (List.mem_of_getElem? (i := 8) rfl)
theorem zj_9 : (.selects RzL yz_L_noteFreed yz_L_noteFreed : Cond) ∈ k2_sels lw_privs ++ (tables_1_1 ++ tables_1_2) := List.mem_append_left _ (List.mem_of_getElem? (i := 9) rfl)
theorem zj_10 : (.selects RzB yz_B_tellAlarms yz_B_tellAlarms : Cond) ∈ k2_sels lw_privs ++ (tables_1_1 ++ tables_1_2) := List.mem_append_left _ (List.mem_of_getElem? (i := 10) rfl)
theorem zj_11 : (.selects RzB yz_B_isOpenOrForced yz_B_isOpenOrForced : Cond) ∈ k2_sels lw_privs ++ (tables_1_1 ++ tables_1_2) := List.mem_append_left _ (List.mem_of_getElem? (i := 11) rfl)
theorem zj_12 : (.selects RzB yz_B_lies yz_B_lies : Cond) ∈ k2_sels lw_privs ++ (tables_1_1 ++ tables_1_2) := List.mem_append_left _ (List.mem_of_getElem? (i := 12) rfl)
theorem zj_13 : (.selects RzL yz_L_boxOfItem yz_L_boxOfItem : Cond) ∈ k2_sels lw_privs ++ (tables_1_1 ++ tables_1_2) := List.mem_append_left _ (List.mem_of_getElem? (i := 13) rfl)
theorem zj_14 : (.selects RzB yz_B_receive yz_B_receive : Cond) ∈ k2_sels lw_privs ++ (tables_1_1 ++ tables_1_2) := List.mem_append_left _ (List.mem_of_getElem? (i := 14) rfl)
theorem zj_15 : (.selects RzB yz_B_wantsCode yz_B_wantsCode : Cond) ∈ k2_sels lw_privs ++ (tables_1_1 ++ tables_1_2) := List.mem_append_left _ (List.mem_of_getElem? (i := 15) rfl)
theorem zj_16 : (.selects RzL yz_L_wantedCode yz_L_wantedCode : Cond) ∈ k2_sels lw_privs ++ (tables_1_1 ++ tables_1_2) := List.mem_append_left _ (List.mem_of_getElem? (i := 16) rfl)
theorem zj_17 : (.selects RzT yz_T_at yz_T_at : Cond) ∈ k2_sels lw_privs ++ (tables_1_1 ++ tables_1_2) := List.mem_append_left _ (List.mem_of_getElem? (i := 17) rfl)
theorem zj_18 : (.selects RzL yz_L_boxNumberOfCode yz_L_boxNumberOfCode : Cond) ∈ k2_sels lw_privs ++ (tables_1_1 ++ tables_1_2) := List.mem_append_left _ (List.mem_of_getElem? (i := 18) rfl)
theorem zj_19 : (.selects RzT yz_T_dropFirst yz_T_dropFirst : Cond) ∈ k2_sels lw_privs ++ (tables_1_1 ++ tables_1_2) := List.mem_append_left _ (List.mem_of_getElem? (i := 19) rfl)
theorem zj_20 : (.selects RzB yz_B_layDown yz_B_layDown : Cond) ∈ k2_sels lw_privs ++ (tables_1_1 ++ tables_1_2) := List.mem_append_left _ (List.mem_of_getElem? (i := 20) rfl)
theorem zj_21 : (.selects RzL yz_L_countWrongTry yz_L_countWrongTry : Cond) ∈ k2_sels lw_privs ++ (tables_1_1 ++ tables_1_2) := List.mem_append_left _ (List.mem_of_getElem? (i := 21) rfl)
theorem zj_22 : (.selects RzB yz_B_clear yz_B_clear : Cond) ∈ k2_sels lw_privs ++ (tables_1_1 ++ tables_1_2) := List.mem_append_left _ (List.mem_of_getElem? (i := 22) rfl)
theorem zj_23 : (.selects RzB yz_B_beginOpening yz_B_beginOpening : Cond) ∈ k2_sels lw_privs ++ (tables_1_1 ++ tables_1_2) := List.mem_append_left _ (List.mem_of_getElem? (i := 23) rfl)
theorem zj_24 : (.selects RzB yz_B_admits yz_B_admits : Cond) ∈ k2_sels lw_privs ++ (tables_1_1 ++ tables_1_2) := List.mem_append_left _ (List.mem_of_getElem? (i := 24) rfl)
theorem zj_25 : (.selects RzB yz_B_undergo yz_B_undergo : Cond) ∈ k2_sels lw_privs ++ (tables_1_1 ++ tables_1_2) := List.mem_append_left _ (List.mem_of_getElem? (i := 25) rfl)
theorem zj_26 : (.selects RzM yz_M_isBox yz_M_isBox : Cond) ∈ k2_sels lw_privs ++ (tables_1_1 ++ tables_1_2) := List.mem_append_left _ (List.mem_of_getElem? (i := 26) rfl)
theorem zj_27 : (.selects RzM yz_M_isNoTime yz_M_isNoTime : Cond) ∈ k2_sels lw_privs ++ (tables_1_1 ++ tables_1_2) := List.mem_append_left _ (List.mem_of_getElem? (i := 27) rfl)
theorem zj_28 : (.selects RzM yz_M_pass yz_M_pass : Cond) ∈ k2_sels lw_privs ++ (tables_1_1 ++ tables_1_2) := List.mem_append_left _ (List.mem_of_getElem? (i := 28) rfl)
theorem zj_29 : (.selects RzM yz_M_isCode yz_M_isCode : Cond) ∈ k2_sels lw_privs ++ (tables_1_1 ++ tables_1_2) := List.mem_append_left _ (List.mem_of_getElem? (i := 29) rfl)
theorem zj_30 : (.selects RzM yz_M_out yz_M_out : Cond) ∈ k2_sels lw_privs ++ (tables_1_1 ++ tables_1_2) := List.mem_append_left _ (List.mem_of_getElem? (i := 30) rfl)
theorem zj_31 : (.selects RzM yz_M_open yz_M_open : Cond) ∈ k2_sels lw_privs ++ (tables_1_1 ++ tables_1_2) := List.mem_append_left _ (List.mem_of_getElem? (i := 31) rfl)
theorem zj_32 : (.initialized RzW : Cond) ∈ k2_sels lw_privs ++ (tables_1_1 ++ tables_1_2) := List.mem_append_right _ (List.mem_append_left _ (List.mem_of_getElem? (i := 0) rfl))
theorem zj_33 : (.initialized RzL : Cond) ∈ k2_sels lw_privs ++ (tables_1_1 ++ tables_1_2) := List.mem_append_right _ (List.mem_append_left _ (List.mem_of_getElem? (i := 1) rfl))
theorem zj_34 : (.initialized RzT : Cond) ∈ k2_sels lw_privs ++ (tables_1_1 ++ tables_1_2) := List.mem_append_right _ (List.mem_append_left _ (List.mem_of_getElem? (i := 2) rfl))
theorem zj_35 : (.initialized RzM : Cond) ∈ k2_sels lw_privs ++ (tables_1_1 ++ tables_1_2) := List.mem_append_right _ (List.mem_append_left _ (List.mem_of_getElem? (i := 3) rfl))
theorem zj_36 : (.initialized RzB : Cond) ∈ k2_sels lw_privs ++ (tables_1_1 ++ tables_1_2) := List.mem_append_right _ (List.mem_append_left _ (List.mem_of_getElem? (i := 4) rfl))
theorem zj_37 : (.initialized "java/lang/System" : Cond) ∈ k2_sels lw_privs ++ (tables_1_1 ++ tables_1_2) := List.mem_append_right _ (List.mem_append_left _ (List.mem_of_getElem? (i := 5) rfl))
theorem zj_38 : (.classLink RzW 7 RzL : Cond) ∈ k2_sels lw_privs ++ (tables_1_1 ++ tables_1_2) := List.mem_append_right _ (List.mem_append_left _ (List.mem_of_getElem? (i := 6) rfl))
theorem zj_39 : (.instantiable RzL 9 : Cond) ∈ k2_sels lw_privs ++ (tables_1_1 ++ tables_1_2) := List.mem_append_right _ (List.mem_append_left _ (List.mem_of_getElem? (i := 7) rfl))
theorem zj_40 : (.methodLink RzW 9 yz_L_init : Cond) ∈ k2_sels lw_privs ++ (tables_1_1 ++ tables_1_2) := List.mem_append_right _ (List.mem_append_left _ (List.mem_of_getElem? (i := 8) rfl))
theorem zj_41 : (.instanceMethod yz_L_init : Cond) ∈ k2_sels lw_privs ++ (tables_1_1 ++ tables_1_2) := List.mem_append_right _ (List.mem_append_left _ (List.mem_of_getElem? (i := 9) rfl))
theorem zj_42 : (.code yz_L_init cz_L_init 1 (Option.none : Option Jvm.ClassFile.FieldType) : Cond) ∈ k2_sels lw_privs ++ (tables_1_1 ++ tables_1_2) := List.mem_append_right _ (List.mem_append_left _ (List.mem_of_getElem? (i := 10) rfl))
theorem zj_43 : (.methodLink RzL 1 objectInit : Cond) ∈ k2_sels lw_privs ++ (tables_1_1 ++ tables_1_2) := List.mem_append_right _ (List.mem_append_left _ (List.mem_of_getElem? (i := 11) rfl))
theorem zj_44 : (.instanceMethod objectInit : Cond) ∈ k2_sels lw_privs ++ (tables_1_1 ++ tables_1_2) := List.mem_append_right _ (List.mem_append_left _ (List.mem_of_getElem? (i := 12) rfl))
theorem zj_45 : (.code objectInit ⟨#[0xb1]⟩ 1 none : Cond) ∈ k2_sels lw_privs ++ (tables_1_1 ++ tables_1_2) := List.mem_append_right _ (List.mem_append_left _ (List.mem_of_getElem? (i := 13) rfl))
theorem zj_46 : (.classLink RzL 9 RzB : Cond) ∈ k2_sels lw_privs ++ (tables_1_1 ++ tables_1_2) := List.mem_append_right _ (List.mem_append_left _ (List.mem_of_getElem? (i := 14) rfl))
theorem zj_47 : (.classLink RzL 19 RzT : Cond) ∈ k2_sels lw_privs ++ (tables_1_1 ++ tables_1_2) := List.mem_append_right _ (List.mem_append_left _ (List.mem_of_getElem? (i := 16) rfl))
theorem zj_48 : (.instantiable RzT 2 : Cond) ∈ k2_sels lw_privs ++ (tables_1_1 ++ tables_1_2) := List.mem_append_right _ (List.mem_append_left _ (List.mem_of_getElem? (i := 17) rfl))
theorem zj_49 : (.instanceMethod yz_T_init : Cond) ∈ k2_sels lw_privs ++ (tables_1_1 ++ tables_1_2) := List.mem_append_right _ (List.mem_append_left _ (List.mem_of_getElem? (i := 19) rfl))
theorem zj_50 : (.code yz_T_init cz_T_init 1 (Option.none : Option Jvm.ClassFile.FieldType) : Cond) ∈ k2_sels lw_privs ++ (tables_1_1 ++ tables_1_2) := List.mem_append_right _ (List.mem_append_left _ (List.mem_of_getElem? (i := 20) rfl))
theorem zj_51 : (.methodLink RzT 3 objectInit : Cond) ∈ k2_sels lw_privs ++ (tables_1_1 ++ tables_1_2) := List.mem_append_right _ (List.mem_append_left _ (List.mem_of_getElem? (i := 21) rfl))
theorem zj_52 : (.fieldLink RzT 11 "LockerRows$Tape" "row" "[I" : Cond) ∈ k2_sels lw_privs ++ (tables_1_1 ++ tables_1_2) := List.mem_append_right _ (List.mem_append_left _ (List.mem_of_getElem? (i := 22) rfl))
theorem zj_53 : (.fieldLink RzT 15 "LockerRows$Tape" "count" "I" : Cond) ∈ k2_sels lw_privs ++ (tables_1_1 ++ tables_1_2) := List.mem_append_right _ (List.mem_append_left _ (List.mem_of_getElem? (i := 23) rfl))
theorem zj_54 : (.laysFinal "LockerRows$Tape" "LockerRows$Tape" "row" "[I" : Cond) ∈ k2_sels lw_privs ++ (tables_1_1 ++ tables_1_2) := List.mem_append_right _ (List.mem_append_left _ (List.mem_of_getElem? (i := 24) rfl))
theorem zj_55 : (.lays "LockerRows$Tape" "LockerRows$Tape" "count" "I" : Cond) ∈ k2_sels lw_privs ++ (tables_1_1 ++ tables_1_2) := List.mem_append_right _ (List.mem_append_left _ (List.mem_of_getElem? (i := 26) rfl))
theorem zj_56 : (.arrayClass .int : Cond) ∈ k2_sels lw_privs ++ (tables_1_1 ++ tables_1_2) := List.mem_append_right _ (List.mem_append_left _ (List.mem_of_getElem? (i := 29) rfl))
theorem zj_57 : (.fieldLink RzL 11 "LockerRows" "boxes" "[LLockerRows$Box;" : Cond) ∈ k2_sels lw_privs ++ (tables_1_1 ++ tables_1_2) := List.mem_append_right _ (List.mem_append_left _ (List.mem_of_getElem? (i := 30) rfl))
theorem zj_58 : (.fieldLink RzL 15 "LockerRows" "boxCount" "I" : Cond) ∈ k2_sels lw_privs ++ (tables_1_1 ++ tables_1_2) := List.mem_append_right _ (List.mem_append_left _ (List.mem_of_getElem? (i := 31) rfl))
theorem zj_59 : (.fieldLink RzL 22 "LockerRows" "numbers" "LLockerRows$Tape;" : Cond) ∈ k2_sels lw_privs ++ (tables_1_1 ++ tables_1_2) := List.mem_append_right _ (List.mem_append_left _ (List.mem_of_getElem? (i := 32) rfl))
theorem zj_60 : (.fieldLink RzL 26 "LockerRows" "freedBoxes" "[I" : Cond) ∈ k2_sels lw_privs ++ (tables_1_1 ++ tables_1_2) := List.mem_append_right _ (List.mem_append_left _ (List.mem_of_getElem? (i := 33) rfl))
theorem zj_61 : (.fieldLink RzL 30 "LockerRows" "freedCount" "I" : Cond) ∈ k2_sels lw_privs ++ (tables_1_1 ++ tables_1_2) := List.mem_append_right _ (List.mem_append_left _ (List.mem_of_getElem? (i := 34) rfl))
theorem zj_62 : (.fieldLink RzL 33 "LockerRows" "time" "J" : Cond) ∈ k2_sels lw_privs ++ (tables_1_1 ++ tables_1_2) := List.mem_append_right _ (List.mem_append_left _ (List.mem_of_getElem? (i := 35) rfl))
theorem zj_63 : (.fieldLink RzL 37 "LockerRows" "alarms" "I" : Cond) ∈ k2_sels lw_privs ++ (tables_1_1 ++ tables_1_2) := List.mem_append_right _ (List.mem_append_left _ (List.mem_of_getElem? (i := 36) rfl))
theorem zj_64 : (.fieldLink RzL 40 "LockerRows" "wrongTries" "I" : Cond) ∈ k2_sels lw_privs ++ (tables_1_1 ++ tables_1_2) := List.mem_append_right _ (List.mem_append_left _ (List.mem_of_getElem? (i := 37) rfl))
theorem zj_65 : (.fieldLink RzL 43 "LockerRows" "keypadWaitsUntil" "J" : Cond) ∈ k2_sels lw_privs ++ (tables_1_1 ++ tables_1_2) := List.mem_append_right _ (List.mem_append_left _ (List.mem_of_getElem? (i := 38) rfl))
theorem zj_66 : (.laysFinal "LockerRows" "LockerRows" "boxes" "[LLockerRows$Box;" : Cond) ∈ k2_sels lw_privs ++ (tables_1_1 ++ tables_1_2) := List.mem_append_right _ (List.mem_append_left _ (List.mem_of_getElem? (i := 39) rfl))
theorem zj_67 : (.lays "LockerRows" "LockerRows" "boxCount" "I" : Cond) ∈ k2_sels lw_privs ++ (tables_1_1 ++ tables_1_2) := List.mem_append_right _ (List.mem_append_left _ (List.mem_of_getElem? (i := 41) rfl))
theorem zj_68 : (.laysFinal "LockerRows" "LockerRows" "numbers" "LLockerRows$Tape;" : Cond) ∈ k2_sels lw_privs ++ (tables_1_1 ++ tables_1_2) := List.mem_append_right _ (List.mem_append_left _ (List.mem_of_getElem? (i := 43) rfl))
theorem zj_69 : (.laysFinal "LockerRows" "LockerRows" "freedBoxes" "[I" : Cond) ∈ k2_sels lw_privs ++ (tables_1_1 ++ tables_1_2) := List.mem_append_right _ (List.mem_append_left _ (List.mem_of_getElem? (i := 45) rfl))
theorem zj_70 : (.lays "LockerRows" "LockerRows" "freedCount" "I" : Cond) ∈ k2_sels lw_privs ++ (tables_1_1 ++ tables_1_2) := List.mem_append_right _ (List.mem_append_left _ (List.mem_of_getElem? (i := 47) rfl))
theorem zj_71 : (.lays "LockerRows" "LockerRows" "time" "J" : Cond) ∈ k2_sels lw_privs ++ (tables_1_1 ++ tables_1_2) := List.mem_append_right _ (List.mem_append_left _ (List.mem_of_getElem? (i := 49) rfl))
theorem zj_72 : (.lays "LockerRows" "LockerRows" "alarms" "I" : Cond) ∈ k2_sels lw_privs ++ (tables_1_1 ++ tables_1_2) := List.mem_append_right _ (List.mem_append_left _ (List.mem_of_getElem? (i := 51) rfl))
theorem zj_73 : (.lays "LockerRows" "LockerRows" "wrongTries" "I" : Cond) ∈ k2_sels lw_privs ++ (tables_1_1 ++ tables_1_2) := List.mem_append_right _ (List.mem_append_left _ (List.mem_of_getElem? (i := 53) rfl))
theorem zj_74 : (.lays "LockerRows" "LockerRows" "keypadWaitsUntil" "J" : Cond) ∈ k2_sels lw_privs ++ (tables_1_1 ++ tables_1_2) := List.mem_append_right _ (List.mem_append_left _ (List.mem_of_getElem? (i := 55) rfl))
theorem zj_75 : (.methodLink RzW 13 yz_L_box : Cond) ∈ k2_sels lw_privs ++ (tables_1_1 ++ tables_1_2) := List.mem_append_right _ (List.mem_append_left _ (List.mem_of_getElem? (i := 58) rfl))
theorem zj_76 : (.instanceMethod yz_L_box : Cond) ∈ k2_sels lw_privs ++ (tables_1_1 ++ tables_1_2) := List.mem_append_right _ (List.mem_append_left _ (List.mem_of_getElem? (i := 59) rfl))
theorem zj_77 : (.selects RzL yz_L_box yz_L_box : Cond) ∈ k2_sels lw_privs ++ (tables_1_1 ++ tables_1_2) := List.mem_append_right _ (List.mem_append_left _ (List.mem_of_getElem? (i := 60) rfl))
theorem zj_78 : (.code yz_L_box cz_L_box 2 (some .int) : Cond) ∈ k2_sels lw_privs ++ (tables_1_1 ++ tables_1_2) := List.mem_append_right _ (List.mem_append_left _ (List.mem_of_getElem? (i := 61) rfl))
theorem zj_79 : (.methodLink RzL 46 yz_L_isSize : Cond) ∈ k2_sels lw_privs ++ (tables_1_1 ++ tables_1_2) := List.mem_append_right _ (List.mem_append_left _ (List.mem_of_getElem? (i := 62) rfl))
theorem zj_80 : (.static yz_L_isSize : Cond) ∈ k2_sels lw_privs ++ (tables_1_1 ++ tables_1_2) := List.mem_append_right _ (List.mem_append_left _ (List.mem_of_getElem? (i := 63) rfl))
theorem zj_81 : (.code yz_L_isSize cz_L_isSize 1 (some .boolean) : Cond) ∈ k2_sels lw_privs ++ (tables_1_1 ++ tables_1_2) := List.mem_append_right _ (List.mem_append_left _ (List.mem_of_getElem? (i := 64) rfl))
theorem zj_82 : (.instantiable RzB 9 : Cond) ∈ k2_sels lw_privs ++ (tables_1_1 ++ tables_1_2) := List.mem_append_right _ (List.mem_append_left _ (List.mem_of_getElem? (i := 65) rfl))
theorem zj_83 : (.instanceMethod yz_B_init : Cond) ∈ k2_sels lw_privs ++ (tables_1_1 ++ tables_1_2) := List.mem_append_right _ (List.mem_append_left _ (List.mem_of_getElem? (i := 67) rfl))
theorem zj_84 : (.code yz_B_init cz_B_init 2 (Option.none : Option Jvm.ClassFile.FieldType) : Cond) ∈ k2_sels lw_privs ++ (tables_1_1 ++ tables_1_2) := List.mem_append_right _ (List.mem_append_left _ (List.mem_of_getElem? (i := 68) rfl))
theorem zj_85 : (.methodLink RzB 3 objectInit : Cond) ∈ k2_sels lw_privs ++ (tables_1_1 ++ tables_1_2) := List.mem_append_right _ (List.mem_append_left _ (List.mem_of_getElem? (i := 69) rfl))
theorem zj_86 : (.fieldLink RzB 38 "LockerRows$Box" "size" "I" : Cond) ∈ k2_sels lw_privs ++ (tables_1_1 ++ tables_1_2) := List.mem_append_right _ (List.mem_append_left _ (List.mem_of_getElem? (i := 70) rfl))
theorem zj_87 : (.fieldLink RzB 9 "LockerRows$Box" "door" "I" : Cond) ∈ k2_sels lw_privs ++ (tables_1_1 ++ tables_1_2) := List.mem_append_right _ (List.mem_append_left _ (List.mem_of_getElem? (i := 72) rfl))
theorem zj_88 : (.fieldLink RzB 15 "LockerRows$Box" "openSince" "J" : Cond) ∈ k2_sels lw_privs ++ (tables_1_1 ++ tables_1_2) := List.mem_append_right _ (List.mem_append_left _ (List.mem_of_getElem? (i := 74) rfl))
theorem zj_89 : (.fieldLink RzB 19 "LockerRows$Box" "openingTold" "Z" : Cond) ∈ k2_sels lw_privs ++ (tables_1_1 ++ tables_1_2) := List.mem_append_right _ (List.mem_append_left _ (List.mem_of_getElem? (i := 75) rfl))
theorem zj_90 : (.fieldLink RzB 23 "LockerRows$Box" "item" "I" : Cond) ∈ k2_sels lw_privs ++ (tables_1_1 ++ tables_1_2) := List.mem_append_right _ (List.mem_append_left _ (List.mem_of_getElem? (i := 76) rfl))
theorem zj_91 : (.fieldLink RzB 26 "LockerRows$Box" "code" "I" : Cond) ∈ k2_sels lw_privs ++ (tables_1_1 ++ tables_1_2) := List.mem_append_right _ (List.mem_append_left _ (List.mem_of_getElem? (i := 78) rfl))
theorem zj_92 : (.fieldLink RzB 29 "LockerRows$Box" "liesSince" "J" : Cond) ∈ k2_sels lw_privs ++ (tables_1_1 ++ tables_1_2) := List.mem_append_right _ (List.mem_append_left _ (List.mem_of_getElem? (i := 80) rfl))
theorem zj_93 : (.fieldLink RzB 32 "LockerRows$Box" "late" "Z" : Cond) ∈ k2_sels lw_privs ++ (tables_1_1 ++ tables_1_2) := List.mem_append_right _ (List.mem_append_left _ (List.mem_of_getElem? (i := 81) rfl))
theorem zj_94 : (.fieldLink RzB 35 "LockerRows$Box" "keptUntil" "J" : Cond) ∈ k2_sels lw_privs ++ (tables_1_1 ++ tables_1_2) := List.mem_append_right _ (List.mem_append_left _ (List.mem_of_getElem? (i := 83) rfl))
theorem zj_95 : (.laysFinal "LockerRows$Box" "LockerRows$Box" "size" "I" : Cond) ∈ k2_sels lw_privs ++ (tables_1_1 ++ tables_1_2) := List.mem_append_right _ (List.mem_append_left _ (List.mem_of_getElem? (i := 85) rfl))
theorem zj_96 : (.lays "LockerRows$Box" "LockerRows$Box" "door" "I" : Cond) ∈ k2_sels lw_privs ++ (tables_1_1 ++ tables_1_2) := List.mem_append_right _ (List.mem_append_left _ (List.mem_of_getElem? (i := 87) rfl))
theorem zj_97 : (.lays "LockerRows$Box" "LockerRows$Box" "openSince" "J" : Cond) ∈ k2_sels lw_privs ++ (tables_1_1 ++ tables_1_2) := List.mem_append_right _ (List.mem_append_left _ (List.mem_of_getElem? (i := 89) rfl))
theorem zj_98 : (.lays "LockerRows$Box" "LockerRows$Box" "openingTold" "Z" : Cond) ∈ k2_sels lw_privs ++ (tables_1_1 ++ tables_1_2) := List.mem_append_right _ (List.mem_append_left _ (List.mem_of_getElem? (i := 91) rfl))
theorem zj_99 : (.lays "LockerRows$Box" "LockerRows$Box" "item" "I" : Cond) ∈ k2_sels lw_privs ++ (tables_1_1 ++ tables_1_2) := List.mem_append_right _ (List.mem_append_left _ (List.mem_of_getElem? (i := 93) rfl))
theorem zj_100 : (.lays "LockerRows$Box" "LockerRows$Box" "code" "I" : Cond) ∈ k2_sels lw_privs ++ (tables_1_1 ++ tables_1_2) := List.mem_append_right _ (List.mem_append_left _ (List.mem_of_getElem? (i := 95) rfl))
theorem zj_101 : (.lays "LockerRows$Box" "LockerRows$Box" "liesSince" "J" : Cond) ∈ k2_sels lw_privs ++ (tables_1_1 ++ tables_1_2) := List.mem_append_right _ (List.mem_append_left _ (List.mem_of_getElem? (i := 97) rfl))
theorem zj_102 : (.lays "LockerRows$Box" "LockerRows$Box" "late" "Z" : Cond) ∈ k2_sels lw_privs ++ (tables_1_1 ++ tables_1_2) := List.mem_append_right _ (List.mem_append_left _ (List.mem_of_getElem? (i := 99) rfl))
theorem zj_103 : (.lays "LockerRows$Box" "LockerRows$Box" "keptUntil" "J" : Cond) ∈ k2_sels lw_privs ++ (tables_1_1 ++ tables_1_2) := List.mem_append_right _ (List.mem_append_left _ (List.mem_of_getElem? (i := 101) rfl))
theorem zj_104 : (.methodLink RzW 18 yz_L_tape : Cond) ∈ k2_sels lw_privs ++ (tables_1_1 ++ tables_1_2) := List.mem_append_right _ (List.mem_append_left _ (List.mem_of_getElem? (i := 104) rfl))
theorem zj_105 : (.instanceMethod yz_L_tape : Cond) ∈ k2_sels lw_privs ++ (tables_1_1 ++ tables_1_2) := List.mem_append_right _ (List.mem_append_left _ (List.mem_of_getElem? (i := 105) rfl))
theorem zj_106 : (.selects RzL yz_L_tape yz_L_tape : Cond) ∈ k2_sels lw_privs ++ (tables_1_1 ++ tables_1_2) := List.mem_append_right _ (List.mem_append_left _ (List.mem_of_getElem? (i := 106) rfl))
theorem zj_107 : (.code yz_L_tape cz_L_tape 2 (some .int) : Cond) ∈ k2_sels lw_privs ++ (tables_1_1 ++ tables_1_2) := List.mem_append_right _ (List.mem_append_left _ (List.mem_of_getElem? (i := 107) rfl))
theorem zj_108 : (.methodLink RzL 53 yz_L_isCode : Cond) ∈ k2_sels lw_privs ++ (tables_1_1 ++ tables_1_2) := List.mem_append_right _ (List.mem_append_left _ (List.mem_of_getElem? (i := 108) rfl))
theorem zj_109 : (.static yz_L_isCode : Cond) ∈ k2_sels lw_privs ++ (tables_1_1 ++ tables_1_2) := List.mem_append_right _ (List.mem_append_left _ (List.mem_of_getElem? (i := 109) rfl))
theorem zj_110 : (.code yz_L_isCode cz_L_isCode 1 (some .boolean) : Cond) ∈ k2_sels lw_privs ++ (tables_1_1 ++ tables_1_2) := List.mem_append_right _ (List.mem_append_left _ (List.mem_of_getElem? (i := 110) rfl))
theorem zj_111 : (.constant RzL 144 999999 : Cond) ∈ k2_sels lw_privs ++ (tables_1_1 ++ tables_1_2) := List.mem_append_right _ (List.mem_append_left _ (List.mem_of_getElem? (i := 111) rfl))
theorem zj_112 : (.instanceMethod yz_T_append : Cond) ∈ k2_sels lw_privs ++ (tables_1_1 ++ tables_1_2) := List.mem_append_right _ (List.mem_append_left _ (List.mem_of_getElem? (i := 114) rfl))
theorem zj_113 : (.code yz_T_append cz_T_append 2 (some .boolean) : Cond) ∈ k2_sels lw_privs ++ (tables_1_1 ++ tables_1_2) := List.mem_append_right _ (List.mem_append_left _ (List.mem_of_getElem? (i := 115) rfl))
theorem zj_114 : (.instanceMethod yz_T_length : Cond) ∈ k2_sels lw_privs ++ (tables_1_1 ++ tables_1_2) := List.mem_append_right _ (List.mem_append_left _ (List.mem_of_getElem? (i := 118) rfl))
theorem zj_115 : (.code yz_T_length cz_T_length 1 (some .int) : Cond) ∈ k2_sels lw_privs ++ (tables_1_1 ++ tables_1_2) := List.mem_append_right _ (List.mem_append_left _ (List.mem_of_getElem? (i := 119) rfl))
theorem zj_116 : (.methodLink RzW 24 yz_L_reserve : Cond) ∈ k2_sels lw_privs ++ (tables_1_1 ++ tables_1_2) := List.mem_append_right _ (List.mem_append_left _ (List.mem_of_getElem? (i := 120) rfl))
theorem zj_117 : (.instanceMethod yz_L_reserve : Cond) ∈ k2_sels lw_privs ++ (tables_1_1 ++ tables_1_2) := List.mem_append_right _ (List.mem_append_left _ (List.mem_of_getElem? (i := 121) rfl))
theorem zj_118 : (.selects RzL yz_L_reserve yz_L_reserve : Cond) ∈ k2_sels lw_privs ++ (tables_1_1 ++ tables_1_2) := List.mem_append_right _ (List.mem_append_left _ (List.mem_of_getElem? (i := 122) rfl))
theorem zj_119 : (.code yz_L_reserve cz_L_reserve 6 (some .int) : Cond) ∈ k2_sels lw_privs ++ (tables_1_1 ++ tables_1_2) := List.mem_append_right _ (List.mem_append_left _ (List.mem_of_getElem? (i := 123) rfl))
theorem zj_120 : (.constantLong RzL 63 2000000000 : Cond) ∈ k2_sels lw_privs ++ (tables_1_1 ++ tables_1_2) := List.mem_append_right _ (List.mem_append_left _ (List.mem_of_getElem? (i := 124) rfl))
theorem zj_121 : (.methodLink RzL 65 yz_L_smallestUnused : Cond) ∈ k2_sels lw_privs ++ (tables_1_1 ++ tables_1_2) := List.mem_append_right _ (List.mem_append_left _ (List.mem_of_getElem? (i := 125) rfl))
theorem zj_122 : (.instanceMethod yz_L_smallestUnused : Cond) ∈ k2_sels lw_privs ++ (tables_1_1 ++ tables_1_2) := List.mem_append_right _ (List.mem_append_left _ (List.mem_of_getElem? (i := 127) rfl))
theorem zj_123 : (.code yz_L_smallestUnused cz_L_smallestUnused 6 (some .int) : Cond) ∈ k2_sels lw_privs ++ (tables_1_1 ++ tables_1_2) := List.mem_append_right _ (List.mem_append_left _ (List.mem_of_getElem? (i := 128) rfl))
theorem zj_124 : (.methodLink RzL 69 yz_L_boxAt : Cond) ∈ k2_sels lw_privs ++ (tables_1_1 ++ tables_1_2) := List.mem_append_right _ (List.mem_append_left _ (List.mem_of_getElem? (i := 129) rfl))
theorem zj_125 : (.instanceMethod yz_L_boxAt : Cond) ∈ k2_sels lw_privs ++ (tables_1_1 ++ tables_1_2) := List.mem_append_right _ (List.mem_append_left _ (List.mem_of_getElem? (i := 131) rfl))
theorem zj_126 : (.code yz_L_boxAt cz_L_boxAt 2 (some (.object "LockerRows$Box")) : Cond) ∈ k2_sels lw_privs ++ (tables_1_1 ++ tables_1_2) := List.mem_append_right _ (List.mem_append_left _ (List.mem_of_getElem? (i := 132) rfl))
theorem zj_127 : (.instanceMethod yz_B_isUnused : Cond) ∈ k2_sels lw_privs ++ (tables_1_1 ++ tables_1_2) := List.mem_append_right _ (List.mem_append_left _ (List.mem_of_getElem? (i := 135) rfl))
theorem zj_128 : (.code yz_B_isUnused cz_B_isUnused 1 (some .boolean) : Cond) ∈ k2_sels lw_privs ++ (tables_1_1 ++ tables_1_2) := List.mem_append_right _ (List.mem_append_left _ (List.mem_of_getElem? (i := 136) rfl))
theorem zj_129 : (.methodLink RzB 41 yz_B_isEmpty : Cond) ∈ k2_sels lw_privs ++ (tables_1_1 ++ tables_1_2) := List.mem_append_right _ (List.mem_append_left _ (List.mem_of_getElem? (i := 137) rfl))
theorem zj_130 : (.instanceMethod yz_B_isEmpty : Cond) ∈ k2_sels lw_privs ++ (tables_1_1 ++ tables_1_2) := List.mem_append_right _ (List.mem_append_left _ (List.mem_of_getElem? (i := 139) rfl))
theorem zj_131 : (.code yz_B_isEmpty cz_B_isEmpty 1 (some .boolean) : Cond) ∈ k2_sels lw_privs ++ (tables_1_1 ++ tables_1_2) := List.mem_append_right _ (List.mem_append_left _ (List.mem_of_getElem? (i := 140) rfl))
theorem zj_132 : (.methodLink RzW 29 yz_L_put : Cond) ∈ k2_sels lw_privs ++ (tables_1_1 ++ tables_1_2) := List.mem_append_right _ (List.mem_append_left _ (List.mem_of_getElem? (i := 141) rfl))
theorem zj_133 : (.instanceMethod yz_L_put : Cond) ∈ k2_sels lw_privs ++ (tables_1_1 ++ tables_1_2) := List.mem_append_right _ (List.mem_append_left _ (List.mem_of_getElem? (i := 142) rfl))
theorem zj_134 : (.selects RzL yz_L_put yz_L_put : Cond) ∈ k2_sels lw_privs ++ (tables_1_1 ++ tables_1_2) := List.mem_append_right _ (List.mem_append_left _ (List.mem_of_getElem? (i := 143) rfl))
theorem zj_135 : (.code yz_L_put cz_L_put 6 (some .int) : Cond) ∈ k2_sels lw_privs ++ (tables_1_1 ++ tables_1_2) := List.mem_append_right _ (List.mem_append_left _ (List.mem_of_getElem? (i := 144) rfl))
theorem zj_136 : (.methodLink RzL 76 yz_L_isItem : Cond) ∈ k2_sels lw_privs ++ (tables_1_1 ++ tables_1_2) := List.mem_append_right _ (List.mem_append_left _ (List.mem_of_getElem? (i := 145) rfl))
theorem zj_137 : (.static yz_L_isItem : Cond) ∈ k2_sels lw_privs ++ (tables_1_1 ++ tables_1_2) := List.mem_append_right _ (List.mem_append_left _ (List.mem_of_getElem? (i := 146) rfl))
theorem zj_138 : (.code yz_L_isItem cz_L_isItem 1 (some .boolean) : Cond) ∈ k2_sels lw_privs ++ (tables_1_1 ++ tables_1_2) := List.mem_append_right _ (List.mem_append_left _ (List.mem_of_getElem? (i := 147) rfl))
theorem zj_139 : (.methodLink RzL 79 yz_L_isTime : Cond) ∈ k2_sels lw_privs ++ (tables_1_1 ++ tables_1_2) := List.mem_append_right _ (List.mem_append_left _ (List.mem_of_getElem? (i := 148) rfl))
theorem zj_140 : (.instanceMethod yz_L_isTime : Cond) ∈ k2_sels lw_privs ++ (tables_1_1 ++ tables_1_2) := List.mem_append_right _ (List.mem_append_left _ (List.mem_of_getElem? (i := 150) rfl))
theorem zj_141 : (.code yz_L_isTime cz_L_isTime 3 (some .boolean) : Cond) ∈ k2_sels lw_privs ++ (tables_1_1 ++ tables_1_2) := List.mem_append_right _ (List.mem_append_left _ (List.mem_of_getElem? (i := 151) rfl))
theorem zj_142 : (.methodLink RzL 83 yz_L_passTo : Cond) ∈ k2_sels lw_privs ++ (tables_1_1 ++ tables_1_2) := List.mem_append_right _ (List.mem_append_left _ (List.mem_of_getElem? (i := 152) rfl))
theorem zj_143 : (.instanceMethod yz_L_passTo : Cond) ∈ k2_sels lw_privs ++ (tables_1_1 ++ tables_1_2) := List.mem_append_right _ (List.mem_append_left _ (List.mem_of_getElem? (i := 154) rfl))
theorem zj_144 : (.code yz_L_passTo cz_L_passTo 5 (Option.none : Option Jvm.ClassFile.FieldType) : Cond) ∈ k2_sels lw_privs ++ (tables_1_1 ++ tables_1_2) := List.mem_append_right _ (List.mem_append_left _ (List.mem_of_getElem? (i := 155) rfl))
theorem zj_145 : (.instanceMethod yz_B_freeIfDue : Cond) ∈ k2_sels lw_privs ++ (tables_1_1 ++ tables_1_2) := List.mem_append_right _ (List.mem_append_left _ (List.mem_of_getElem? (i := 158) rfl))
theorem zj_146 : (.code yz_B_freeIfDue cz_B_freeIfDue 3 (some .boolean) : Cond) ∈ k2_sels lw_privs ++ (tables_1_1 ++ tables_1_2) := List.mem_append_right _ (List.mem_append_left _ (List.mem_of_getElem? (i := 159) rfl))
theorem zj_147 : (.methodLink RzL 165 yz_L_noteFreed : Cond) ∈ k2_sels lw_privs ++ (tables_1_1 ++ tables_1_2) := List.mem_append_right _ (List.mem_append_left _ (List.mem_of_getElem? (i := 160) rfl))
theorem zj_148 : (.instanceMethod yz_L_noteFreed : Cond) ∈ k2_sels lw_privs ++ (tables_1_1 ++ tables_1_2) := List.mem_append_right _ (List.mem_append_left _ (List.mem_of_getElem? (i := 162) rfl))
theorem zj_149 : (.code yz_L_noteFreed cz_L_noteFreed 2 (Option.none : Option Jvm.ClassFile.FieldType) : Cond) ∈ k2_sels lw_privs ++ (tables_1_1 ++ tables_1_2) := List.mem_append_right _ (List.mem_append_left _ (List.mem_of_getElem? (i := 163) rfl))
theorem zj_150 : (.instanceMethod yz_B_tellAlarms : Cond) ∈ k2_sels lw_privs ++ (tables_1_1 ++ tables_1_2) := List.mem_append_right _ (List.mem_append_left _ (List.mem_of_getElem? (i := 166) rfl))
theorem zj_151 : (.code yz_B_tellAlarms cz_B_tellAlarms 4 (some .int) : Cond) ∈ k2_sels lw_privs ++ (tables_1_1 ++ tables_1_2) := List.mem_append_right _ (List.mem_append_left _ (List.mem_of_getElem? (i := 167) rfl))
theorem zj_152 : (.methodLink RzB 55 yz_B_isOpenOrForced : Cond) ∈ k2_sels lw_privs ++ (tables_1_1 ++ tables_1_2) := List.mem_append_right _ (List.mem_append_left _ (List.mem_of_getElem? (i := 168) rfl))
theorem zj_153 : (.instanceMethod yz_B_isOpenOrForced : Cond) ∈ k2_sels lw_privs ++ (tables_1_1 ++ tables_1_2) := List.mem_append_right _ (List.mem_append_left _ (List.mem_of_getElem? (i := 170) rfl))
theorem zj_154 : (.code yz_B_isOpenOrForced cz_B_isOpenOrForced 1 (some .boolean) : Cond) ∈ k2_sels lw_privs ++ (tables_1_1 ++ tables_1_2) := List.mem_append_right _ (List.mem_append_left _ (List.mem_of_getElem? (i := 171) rfl))
theorem zj_155 : (.constantLong RzB 58 120 : Cond) ∈ k2_sels lw_privs ++ (tables_1_1 ++ tables_1_2) := List.mem_append_right _ (List.mem_append_left _ (List.mem_of_getElem? (i := 172) rfl))
theorem zj_156 : (.methodLink RzB 45 yz_B_lies : Cond) ∈ k2_sels lw_privs ++ (tables_1_1 ++ tables_1_2) := List.mem_append_right _ (List.mem_append_left _ (List.mem_of_getElem? (i := 173) rfl))
theorem zj_157 : (.instanceMethod yz_B_lies : Cond) ∈ k2_sels lw_privs ++ (tables_1_1 ++ tables_1_2) := List.mem_append_right _ (List.mem_append_left _ (List.mem_of_getElem? (i := 175) rfl))
theorem zj_158 : (.code yz_B_lies cz_B_lies 1 (some .boolean) : Cond) ∈ k2_sels lw_privs ++ (tables_1_1 ++ tables_1_2) := List.mem_append_right _ (List.mem_append_left _ (List.mem_of_getElem? (i := 176) rfl))
theorem zj_159 : (.constantLong RzB 60 604800 : Cond) ∈ k2_sels lw_privs ++ (tables_1_1 ++ tables_1_2) := List.mem_append_right _ (List.mem_append_left _ (List.mem_of_getElem? (i := 177) rfl))
theorem zj_160 : (.methodLink RzL 94 yz_L_boxOfItem : Cond) ∈ k2_sels lw_privs ++ (tables_1_1 ++ tables_1_2) := List.mem_append_right _ (List.mem_append_left _ (List.mem_of_getElem? (i := 179) rfl))
theorem zj_161 : (.instanceMethod yz_L_boxOfItem : Cond) ∈ k2_sels lw_privs ++ (tables_1_1 ++ tables_1_2) := List.mem_append_right _ (List.mem_append_left _ (List.mem_of_getElem? (i := 181) rfl))
theorem zj_162 : (.code yz_L_boxOfItem cz_L_boxOfItem 4 (some (.object "LockerRows$Box")) : Cond) ∈ k2_sels lw_privs ++ (tables_1_1 ++ tables_1_2) := List.mem_append_right _ (List.mem_append_left _ (List.mem_of_getElem? (i := 182) rfl))
theorem zj_163 : (.instanceMethod yz_B_receive : Cond) ∈ k2_sels lw_privs ++ (tables_1_1 ++ tables_1_2) := List.mem_append_right _ (List.mem_append_left _ (List.mem_of_getElem? (i := 185) rfl))
theorem zj_164 : (.code yz_B_receive cz_B_receive 2 (Option.none : Option Jvm.ClassFile.FieldType) : Cond) ∈ k2_sels lw_privs ++ (tables_1_1 ++ tables_1_2) := List.mem_append_right _ (List.mem_append_left _ (List.mem_of_getElem? (i := 186) rfl))
theorem zj_165 : (.methodLink RzW 34 yz_L_close : Cond) ∈ k2_sels lw_privs ++ (tables_1_1 ++ tables_1_2) := List.mem_append_right _ (List.mem_append_left _ (List.mem_of_getElem? (i := 187) rfl))
theorem zj_166 : (.instanceMethod yz_L_close : Cond) ∈ k2_sels lw_privs ++ (tables_1_1 ++ tables_1_2) := List.mem_append_right _ (List.mem_append_left _ (List.mem_of_getElem? (i := 188) rfl))
theorem zj_167 : (.selects RzL yz_L_close yz_L_close : Cond) ∈ k2_sels lw_privs ++ (tables_1_1 ++ tables_1_2) := List.mem_append_right _ (List.mem_append_left _ (List.mem_of_getElem? (i := 189) rfl))
theorem zj_168 : (.code yz_L_close cz_L_close 6 (some .int) : Cond) ∈ k2_sels lw_privs ++ (tables_1_1 ++ tables_1_2) := List.mem_append_right _ (List.mem_append_left _ (List.mem_of_getElem? (i := 190) rfl))
theorem zj_169 : (.instanceMethod yz_B_wantsCode : Cond) ∈ k2_sels lw_privs ++ (tables_1_1 ++ tables_1_2) := List.mem_append_right _ (List.mem_append_left _ (List.mem_of_getElem? (i := 193) rfl))
theorem zj_170 : (.code yz_B_wantsCode cz_B_wantsCode 1 (some .boolean) : Cond) ∈ k2_sels lw_privs ++ (tables_1_1 ++ tables_1_2) := List.mem_append_right _ (List.mem_append_left _ (List.mem_of_getElem? (i := 194) rfl))
theorem zj_171 : (.methodLink RzL 103 yz_L_wantedCode : Cond) ∈ k2_sels lw_privs ++ (tables_1_1 ++ tables_1_2) := List.mem_append_right _ (List.mem_append_left _ (List.mem_of_getElem? (i := 195) rfl))
theorem zj_172 : (.instanceMethod yz_L_wantedCode : Cond) ∈ k2_sels lw_privs ++ (tables_1_1 ++ tables_1_2) := List.mem_append_right _ (List.mem_append_left _ (List.mem_of_getElem? (i := 197) rfl))
theorem zj_173 : (.code yz_L_wantedCode cz_L_wantedCode 3 (some .int) : Cond) ∈ k2_sels lw_privs ++ (tables_1_1 ++ tables_1_2) := List.mem_append_right _ (List.mem_append_left _ (List.mem_of_getElem? (i := 198) rfl))
theorem zj_174 : (.instanceMethod yz_T_at : Cond) ∈ k2_sels lw_privs ++ (tables_1_1 ++ tables_1_2) := List.mem_append_right _ (List.mem_append_left _ (List.mem_of_getElem? (i := 201) rfl))
theorem zj_175 : (.code yz_T_at cz_T_at 2 (some .int) : Cond) ∈ k2_sels lw_privs ++ (tables_1_1 ++ tables_1_2) := List.mem_append_right _ (List.mem_append_left _ (List.mem_of_getElem? (i := 202) rfl))
theorem zj_176 : (.methodLink RzL 110 yz_L_boxNumberOfCode : Cond) ∈ k2_sels lw_privs ++ (tables_1_1 ++ tables_1_2) := List.mem_append_right _ (List.mem_append_left _ (List.mem_of_getElem? (i := 203) rfl))
theorem zj_177 : (.instanceMethod yz_L_boxNumberOfCode : Cond) ∈ k2_sels lw_privs ++ (tables_1_1 ++ tables_1_2) := List.mem_append_right _ (List.mem_append_left _ (List.mem_of_getElem? (i := 205) rfl))
theorem zj_178 : (.code yz_L_boxNumberOfCode cz_L_boxNumberOfCode 4 (some .int) : Cond) ∈ k2_sels lw_privs ++ (tables_1_1 ++ tables_1_2) := List.mem_append_right _ (List.mem_append_left _ (List.mem_of_getElem? (i := 206) rfl))
theorem zj_179 : (.instanceMethod yz_T_dropFirst : Cond) ∈ k2_sels lw_privs ++ (tables_1_1 ++ tables_1_2) := List.mem_append_right _ (List.mem_append_left _ (List.mem_of_getElem? (i := 210) rfl))
theorem zj_180 : (.code yz_T_dropFirst cz_T_dropFirst 2 (Option.none : Option Jvm.ClassFile.FieldType) : Cond) ∈ k2_sels lw_privs ++ (tables_1_1 ++ tables_1_2) := List.mem_append_right _ (List.mem_append_left _ (List.mem_of_getElem? (i := 211) rfl))
theorem zj_181 : (.methodLink RzT 19 arraycopyName : Cond) ∈ k2_sels lw_privs ++ (tables_1_1 ++ tables_1_2) := List.mem_append_right _ (List.mem_append_left _ (List.mem_of_getElem? (i := 212) rfl))
theorem zj_182 : (.static arraycopyName : Cond) ∈ k2_sels lw_privs ++ (tables_1_1 ++ tables_1_2) := List.mem_append_right _ (List.mem_append_left _ (List.mem_of_getElem? (i := 213) rfl))
theorem zj_183 : (.native arraycopyName : Cond) ∈ k2_sels lw_privs ++ (tables_1_1 ++ tables_1_2) := List.mem_append_right _ (List.mem_append_left _ (List.mem_of_getElem? (i := 214) rfl))
theorem zj_184 : (.instanceMethod yz_B_layDown : Cond) ∈ k2_sels lw_privs ++ (tables_1_1 ++ tables_1_2) := List.mem_append_right _ (List.mem_append_left _ (List.mem_of_getElem? (i := 217) rfl))
theorem zj_185 : (.code yz_B_layDown cz_B_layDown 4 (Option.none : Option Jvm.ClassFile.FieldType) : Cond) ∈ k2_sels lw_privs ++ (tables_1_1 ++ tables_1_2) := List.mem_append_right _ (List.mem_append_left _ (List.mem_of_getElem? (i := 218) rfl))
theorem zj_186 : (.methodLink RzW 38 yz_L_type : Cond) ∈ k2_sels lw_privs ++ (tables_1_1 ++ tables_1_2) := List.mem_append_right _ (List.mem_append_left _ (List.mem_of_getElem? (i := 219) rfl))
theorem zj_187 : (.instanceMethod yz_L_type : Cond) ∈ k2_sels lw_privs ++ (tables_1_1 ++ tables_1_2) := List.mem_append_right _ (List.mem_append_left _ (List.mem_of_getElem? (i := 220) rfl))
theorem zj_188 : (.selects RzL yz_L_type yz_L_type : Cond) ∈ k2_sels lw_privs ++ (tables_1_1 ++ tables_1_2) := List.mem_append_right _ (List.mem_append_left _ (List.mem_of_getElem? (i := 221) rfl))
theorem zj_189 : (.code yz_L_type cz_L_type 6 (some .int) : Cond) ∈ k2_sels lw_privs ++ (tables_1_1 ++ tables_1_2) := List.mem_append_right _ (List.mem_append_left _ (List.mem_of_getElem? (i := 222) rfl))
theorem zj_190 : (.methodLink RzL 113 yz_L_countWrongTry : Cond) ∈ k2_sels lw_privs ++ (tables_1_1 ++ tables_1_2) := List.mem_append_right _ (List.mem_append_left _ (List.mem_of_getElem? (i := 223) rfl))
theorem zj_191 : (.instanceMethod yz_L_countWrongTry : Cond) ∈ k2_sels lw_privs ++ (tables_1_1 ++ tables_1_2) := List.mem_append_right _ (List.mem_append_left _ (List.mem_of_getElem? (i := 225) rfl))
theorem zj_192 : (.code yz_L_countWrongTry cz_L_countWrongTry 3 (Option.none : Option Jvm.ClassFile.FieldType) : Cond) ∈ k2_sels lw_privs ++ (tables_1_1 ++ tables_1_2) := List.mem_append_right _ (List.mem_append_left _ (List.mem_of_getElem? (i := 226) rfl))
theorem zj_193 : (.constantLong RzL 160 300 : Cond) ∈ k2_sels lw_privs ++ (tables_1_1 ++ tables_1_2) := List.mem_append_right _ (List.mem_append_left _ (List.mem_of_getElem? (i := 227) rfl))
theorem zj_194 : (.instanceMethod yz_B_clear : Cond) ∈ k2_sels lw_privs ++ (tables_1_1 ++ tables_1_2) := List.mem_append_right _ (List.mem_append_left _ (List.mem_of_getElem? (i := 230) rfl))
theorem zj_195 : (.code yz_B_clear cz_B_clear 1 (Option.none : Option Jvm.ClassFile.FieldType) : Cond) ∈ k2_sels lw_privs ++ (tables_1_1 ++ tables_1_2) := List.mem_append_right _ (List.mem_append_left _ (List.mem_of_getElem? (i := 231) rfl))
theorem zj_196 : (.instanceMethod yz_B_beginOpening : Cond) ∈ k2_sels lw_privs ++ (tables_1_1 ++ tables_1_2) := List.mem_append_right _ (List.mem_append_left _ (List.mem_of_getElem? (i := 234) rfl))
theorem zj_197 : (.code yz_B_beginOpening cz_B_beginOpening 4 (Option.none : Option Jvm.ClassFile.FieldType) : Cond) ∈ k2_sels lw_privs ++ (tables_1_1 ++ tables_1_2) := List.mem_append_right _ (List.mem_append_left _ (List.mem_of_getElem? (i := 235) rfl))
theorem zj_198 : (.methodLink RzW 42 yz_L_code : Cond) ∈ k2_sels lw_privs ++ (tables_1_1 ++ tables_1_2) := List.mem_append_right _ (List.mem_append_left _ (List.mem_of_getElem? (i := 236) rfl))
theorem zj_199 : (.instanceMethod yz_L_code : Cond) ∈ k2_sels lw_privs ++ (tables_1_1 ++ tables_1_2) := List.mem_append_right _ (List.mem_append_left _ (List.mem_of_getElem? (i := 237) rfl))
theorem zj_200 : (.selects RzL yz_L_code yz_L_code : Cond) ∈ k2_sels lw_privs ++ (tables_1_1 ++ tables_1_2) := List.mem_append_right _ (List.mem_append_left _ (List.mem_of_getElem? (i := 238) rfl))
theorem zj_201 : (.code yz_L_code cz_L_code 3 (some .int) : Cond) ∈ k2_sels lw_privs ++ (tables_1_1 ++ tables_1_2) := List.mem_append_right _ (List.mem_append_left _ (List.mem_of_getElem? (i := 239) rfl))
theorem zj_202 : (.methodLink RzW 46 yz_L_door : Cond) ∈ k2_sels lw_privs ++ (tables_1_1 ++ tables_1_2) := List.mem_append_right _ (List.mem_append_right _ (List.mem_of_getElem? (i := 0) rfl))
theorem zj_203 : (.instanceMethod yz_L_door : Cond) ∈ k2_sels lw_privs ++ (tables_1_1 ++ tables_1_2) := List.mem_append_right _ (List.mem_append_right _ (List.mem_of_getElem? (i := 1) rfl))
theorem zj_204 : (.selects RzL yz_L_door yz_L_door : Cond) ∈ k2_sels lw_privs ++ (tables_1_1 ++ tables_1_2) := List.mem_append_right _ (List.mem_append_right _ (List.mem_of_getElem? (i := 2) rfl))
theorem zj_205 : (.code yz_L_door cz_L_door 6 (some .int) : Cond) ∈ k2_sels lw_privs ++ (tables_1_1 ++ tables_1_2) := List.mem_append_right _ (List.mem_append_right _ (List.mem_of_getElem? (i := 3) rfl))
theorem zj_206 : (.static yz_B_isEvent : Cond) ∈ k2_sels lw_privs ++ (tables_1_1 ++ tables_1_2) := List.mem_append_right _ (List.mem_append_right _ (List.mem_of_getElem? (i := 5) rfl))
theorem zj_207 : (.code yz_B_isEvent cz_B_isEvent 1 (some .boolean) : Cond) ∈ k2_sels lw_privs ++ (tables_1_1 ++ tables_1_2) := List.mem_append_right _ (List.mem_append_right _ (List.mem_of_getElem? (i := 6) rfl))
theorem zj_208 : (.instanceMethod yz_B_admits : Cond) ∈ k2_sels lw_privs ++ (tables_1_1 ++ tables_1_2) := List.mem_append_right _ (List.mem_append_right _ (List.mem_of_getElem? (i := 9) rfl))
theorem zj_209 : (.code yz_B_admits cz_B_admits 2 (some .boolean) : Cond) ∈ k2_sels lw_privs ++ (tables_1_1 ++ tables_1_2) := List.mem_append_right _ (List.mem_append_right _ (List.mem_of_getElem? (i := 10) rfl))
theorem zj_210 : (.methodLink RzB 48 yz_B_isUnused : Cond) ∈ k2_sels lw_privs ++ (tables_1_1 ++ tables_1_2) := List.mem_append_right _ (List.mem_append_right _ (List.mem_of_getElem? (i := 11) rfl))
theorem zj_211 : (.instanceMethod yz_B_undergo : Cond) ∈ k2_sels lw_privs ++ (tables_1_1 ++ tables_1_2) := List.mem_append_right _ (List.mem_append_right _ (List.mem_of_getElem? (i := 14) rfl))
theorem zj_212 : (.code yz_B_undergo cz_B_undergo 4 (Option.none : Option Jvm.ClassFile.FieldType) : Cond) ∈ k2_sels lw_privs ++ (tables_1_1 ++ tables_1_2) := List.mem_append_right _ (List.mem_append_right _ (List.mem_of_getElem? (i := 15) rfl))
theorem zj_213 : (.methodLink RzB 51 yz_B_beginOpening : Cond) ∈ k2_sels lw_privs ++ (tables_1_1 ++ tables_1_2) := List.mem_append_right _ (List.mem_append_right _ (List.mem_of_getElem? (i := 16) rfl))
theorem zj_214 : (.methodLink RzW 50 yz_L_tick : Cond) ∈ k2_sels lw_privs ++ (tables_1_1 ++ tables_1_2) := List.mem_append_right _ (List.mem_append_right _ (List.mem_of_getElem? (i := 17) rfl))
theorem zj_215 : (.instanceMethod yz_L_tick : Cond) ∈ k2_sels lw_privs ++ (tables_1_1 ++ tables_1_2) := List.mem_append_right _ (List.mem_append_right _ (List.mem_of_getElem? (i := 18) rfl))
theorem zj_216 : (.selects RzL yz_L_tick yz_L_tick : Cond) ∈ k2_sels lw_privs ++ (tables_1_1 ++ tables_1_2) := List.mem_append_right _ (List.mem_append_right _ (List.mem_of_getElem? (i := 19) rfl))
theorem zj_217 : (.code yz_L_tick cz_L_tick 4 (some .int) : Cond) ∈ k2_sels lw_privs ++ (tables_1_1 ++ tables_1_2) := List.mem_append_right _ (List.mem_append_right _ (List.mem_of_getElem? (i := 20) rfl))
theorem zj_218 : (.methodLink RzW 55 yz_L_take : Cond) ∈ k2_sels lw_privs ++ (tables_1_1 ++ tables_1_2) := List.mem_append_right _ (List.mem_append_right _ (List.mem_of_getElem? (i := 21) rfl))
theorem zj_219 : (.instanceMethod yz_L_take : Cond) ∈ k2_sels lw_privs ++ (tables_1_1 ++ tables_1_2) := List.mem_append_right _ (List.mem_append_right _ (List.mem_of_getElem? (i := 22) rfl))
theorem zj_220 : (.selects RzL yz_L_take yz_L_take : Cond) ∈ k2_sels lw_privs ++ (tables_1_1 ++ tables_1_2) := List.mem_append_right _ (List.mem_append_right _ (List.mem_of_getElem? (i := 23) rfl))
theorem zj_221 : (.code yz_L_take cz_L_take 5 (some .int) : Cond) ∈ k2_sels lw_privs ++ (tables_1_1 ++ tables_1_2) := List.mem_append_right _ (List.mem_append_right _ (List.mem_of_getElem? (i := 24) rfl))
theorem zj_222 : (.methodLink RzW 60 yz_L_item : Cond) ∈ k2_sels lw_privs ++ (tables_1_1 ++ tables_1_2) := List.mem_append_right _ (List.mem_append_right _ (List.mem_of_getElem? (i := 26) rfl))
theorem zj_223 : (.instanceMethod yz_L_item : Cond) ∈ k2_sels lw_privs ++ (tables_1_1 ++ tables_1_2) := List.mem_append_right _ (List.mem_append_right _ (List.mem_of_getElem? (i := 27) rfl))
theorem zj_224 : (.selects RzL yz_L_item yz_L_item : Cond) ∈ k2_sels lw_privs ++ (tables_1_1 ++ tables_1_2) := List.mem_append_right _ (List.mem_append_right _ (List.mem_of_getElem? (i := 28) rfl))
theorem zj_225 : (.code yz_L_item cz_L_item 3 (some .int) : Cond) ∈ k2_sels lw_privs ++ (tables_1_1 ++ tables_1_2) := List.mem_append_right _ (List.mem_append_right _ (List.mem_of_getElem? (i := 29) rfl))
theorem zj_226 : (.methodLink RzW 64 yz_L_freed : Cond) ∈ k2_sels lw_privs ++ (tables_1_1 ++ tables_1_2) := List.mem_append_right _ (List.mem_append_right _ (List.mem_of_getElem? (i := 30) rfl))
theorem zj_227 : (.instanceMethod yz_L_freed : Cond) ∈ k2_sels lw_privs ++ (tables_1_1 ++ tables_1_2) := List.mem_append_right _ (List.mem_append_right _ (List.mem_of_getElem? (i := 31) rfl))
theorem zj_228 : (.selects RzL yz_L_freed yz_L_freed : Cond) ∈ k2_sels lw_privs ++ (tables_1_1 ++ tables_1_2) := List.mem_append_right _ (List.mem_append_right _ (List.mem_of_getElem? (i := 32) rfl))
theorem zj_229 : (.code yz_L_freed cz_L_freed 2 (some .int) : Cond) ∈ k2_sels lw_privs ++ (tables_1_1 ++ tables_1_2) := List.mem_append_right _ (List.mem_append_right _ (List.mem_of_getElem? (i := 33) rfl))
theorem zj_230 : (.classLink RzW 10 RzM : Cond) ∈ k2_sels lw_privs ++ (tables_1_1 ++ tables_1_2) := List.mem_append_right _ (List.mem_append_right _ (List.mem_of_getElem? (i := 34) rfl))
theorem zj_231 : (.instantiable RzM 18 : Cond) ∈ k2_sels lw_privs ++ (tables_1_1 ++ tables_1_2) := List.mem_append_right _ (List.mem_append_right _ (List.mem_of_getElem? (i := 35) rfl))
theorem zj_232 : (.methodLink RzW 12 yz_M_init : Cond) ∈ k2_sels lw_privs ++ (tables_1_1 ++ tables_1_2) := List.mem_append_right _ (List.mem_append_right _ (List.mem_of_getElem? (i := 36) rfl))
theorem zj_233 : (.instanceMethod yz_M_init : Cond) ∈ k2_sels lw_privs ++ (tables_1_1 ++ tables_1_2) := List.mem_append_right _ (List.mem_append_right _ (List.mem_of_getElem? (i := 37) rfl))
theorem zj_234 : (.code yz_M_init cz_M_init 1 (Option.none : Option Jvm.ClassFile.FieldType) : Cond) ∈ k2_sels lw_privs ++ (tables_1_1 ++ tables_1_2) := List.mem_append_right _ (List.mem_append_right _ (List.mem_of_getElem? (i := 38) rfl))
theorem zj_235 : (.methodLink RzM 1 objectInit : Cond) ∈ k2_sels lw_privs ++ (tables_1_1 ++ tables_1_2) := List.mem_append_right _ (List.mem_append_right _ (List.mem_of_getElem? (i := 39) rfl))
theorem zj_236 : (.fieldLink RzM 45 "LockerRowsModel" "boxes" "I" : Cond) ∈ k2_sels lw_privs ++ (tables_1_1 ++ tables_1_2) := List.mem_append_right _ (List.mem_append_right _ (List.mem_of_getElem? (i := 40) rfl))
theorem zj_237 : (.fieldLink RzM 7 "LockerRowsModel" "sizes" "[I" : Cond) ∈ k2_sels lw_privs ++ (tables_1_1 ++ tables_1_2) := List.mem_append_right _ (List.mem_append_right _ (List.mem_of_getElem? (i := 41) rfl))
theorem zj_238 : (.fieldLink RzM 13 "LockerRowsModel" "doors" "[I" : Cond) ∈ k2_sels lw_privs ++ (tables_1_1 ++ tables_1_2) := List.mem_append_right _ (List.mem_append_right _ (List.mem_of_getElem? (i := 42) rfl))
theorem zj_239 : (.fieldLink RzM 16 "LockerRowsModel" "since" "[J" : Cond) ∈ k2_sels lw_privs ++ (tables_1_1 ++ tables_1_2) := List.mem_append_right _ (List.mem_append_right _ (List.mem_of_getElem? (i := 43) rfl))
theorem zj_240 : (.fieldLink RzM 20 "LockerRowsModel" "told" "[Z" : Cond) ∈ k2_sels lw_privs ++ (tables_1_1 ++ tables_1_2) := List.mem_append_right _ (List.mem_append_right _ (List.mem_of_getElem? (i := 44) rfl))
theorem zj_241 : (.fieldLink RzM 24 "LockerRowsModel" "items" "[I" : Cond) ∈ k2_sels lw_privs ++ (tables_1_1 ++ tables_1_2) := List.mem_append_right _ (List.mem_append_right _ (List.mem_of_getElem? (i := 45) rfl))
theorem zj_242 : (.fieldLink RzM 27 "LockerRowsModel" "codes" "[I" : Cond) ∈ k2_sels lw_privs ++ (tables_1_1 ++ tables_1_2) := List.mem_append_right _ (List.mem_append_right _ (List.mem_of_getElem? (i := 46) rfl))
theorem zj_243 : (.fieldLink RzM 30 "LockerRowsModel" "lies" "[J" : Cond) ∈ k2_sels lw_privs ++ (tables_1_1 ++ tables_1_2) := List.mem_append_right _ (List.mem_append_right _ (List.mem_of_getElem? (i := 47) rfl))
theorem zj_244 : (.fieldLink RzM 33 "LockerRowsModel" "late" "[Z" : Cond) ∈ k2_sels lw_privs ++ (tables_1_1 ++ tables_1_2) := List.mem_append_right _ (List.mem_append_right _ (List.mem_of_getElem? (i := 48) rfl))
theorem zj_245 : (.fieldLink RzM 36 "LockerRowsModel" "kept" "[J" : Cond) ∈ k2_sels lw_privs ++ (tables_1_1 ++ tables_1_2) := List.mem_append_right _ (List.mem_append_right _ (List.mem_of_getElem? (i := 49) rfl))
theorem zj_246 : (.fieldLink RzM 60 "LockerRowsModel" "time" "J" : Cond) ∈ k2_sels lw_privs ++ (tables_1_1 ++ tables_1_2) := List.mem_append_right _ (List.mem_append_right _ (List.mem_of_getElem? (i := 50) rfl))
theorem zj_247 : (.fieldLink RzM 71 "LockerRowsModel" "alarms" "I" : Cond) ∈ k2_sels lw_privs ++ (tables_1_1 ++ tables_1_2) := List.mem_append_right _ (List.mem_append_right _ (List.mem_of_getElem? (i := 51) rfl))
theorem zj_248 : (.fieldLink RzM 104 "LockerRowsModel" "wrong" "I" : Cond) ∈ k2_sels lw_privs ++ (tables_1_1 ++ tables_1_2) := List.mem_append_right _ (List.mem_append_right _ (List.mem_of_getElem? (i := 52) rfl))
theorem zj_249 : (.fieldLink RzM 93 "LockerRowsModel" "waits" "J" : Cond) ∈ k2_sels lw_privs ++ (tables_1_1 ++ tables_1_2) := List.mem_append_right _ (List.mem_append_right _ (List.mem_of_getElem? (i := 53) rfl))
theorem zj_250 : (.fieldLink RzM 57 "LockerRowsModel" "taped" "I" : Cond) ∈ k2_sels lw_privs ++ (tables_1_1 ++ tables_1_2) := List.mem_append_right _ (List.mem_append_right _ (List.mem_of_getElem? (i := 54) rfl))
theorem zj_251 : (.fieldLink RzM 39 "LockerRowsModel" "tape" "[I" : Cond) ∈ k2_sels lw_privs ++ (tables_1_1 ++ tables_1_2) := List.mem_append_right _ (List.mem_append_right _ (List.mem_of_getElem? (i := 55) rfl))
theorem zj_252 : (.fieldLink RzM 66 "LockerRowsModel" "freed" "I" : Cond) ∈ k2_sels lw_privs ++ (tables_1_1 ++ tables_1_2) := List.mem_append_right _ (List.mem_append_right _ (List.mem_of_getElem? (i := 56) rfl))
theorem zj_253 : (.fieldLink RzM 42 "LockerRowsModel" "free" "[I" : Cond) ∈ k2_sels lw_privs ++ (tables_1_1 ++ tables_1_2) := List.mem_append_right _ (List.mem_append_right _ (List.mem_of_getElem? (i := 57) rfl))
theorem zj_254 : (.lays "LockerRowsModel" "LockerRowsModel" "boxes" "I" : Cond) ∈ k2_sels lw_privs ++ (tables_1_1 ++ tables_1_2) := List.mem_append_right _ (List.mem_append_right _ (List.mem_of_getElem? (i := 58) rfl))
theorem zj_255 : (.laysFinal "LockerRowsModel" "LockerRowsModel" "sizes" "[I" : Cond) ∈ k2_sels lw_privs ++ (tables_1_1 ++ tables_1_2) := List.mem_append_right _ (List.mem_append_right _ (List.mem_of_getElem? (i := 60) rfl))
theorem zj_256 : (.laysFinal "LockerRowsModel" "LockerRowsModel" "doors" "[I" : Cond) ∈ k2_sels lw_privs ++ (tables_1_1 ++ tables_1_2) := List.mem_append_right _ (List.mem_append_right _ (List.mem_of_getElem? (i := 62) rfl))
theorem zj_257 : (.laysFinal "LockerRowsModel" "LockerRowsModel" "since" "[J" : Cond) ∈ k2_sels lw_privs ++ (tables_1_1 ++ tables_1_2) := List.mem_append_right _ (List.mem_append_right _ (List.mem_of_getElem? (i := 64) rfl))
theorem zj_258 : (.laysFinal "LockerRowsModel" "LockerRowsModel" "told" "[Z" : Cond) ∈ k2_sels lw_privs ++ (tables_1_1 ++ tables_1_2) := List.mem_append_right _ (List.mem_append_right _ (List.mem_of_getElem? (i := 66) rfl))
theorem zj_259 : (.laysFinal "LockerRowsModel" "LockerRowsModel" "items" "[I" : Cond) ∈ k2_sels lw_privs ++ (tables_1_1 ++ tables_1_2) := List.mem_append_right _ (List.mem_append_right _ (List.mem_of_getElem? (i := 68) rfl))
theorem zj_260 : (.laysFinal "LockerRowsModel" "LockerRowsModel" "codes" "[I" : Cond) ∈ k2_sels lw_privs ++ (tables_1_1 ++ tables_1_2) := List.mem_append_right _ (List.mem_append_right _ (List.mem_of_getElem? (i := 70) rfl))
theorem zj_261 : (.laysFinal "LockerRowsModel" "LockerRowsModel" "lies" "[J" : Cond) ∈ k2_sels lw_privs ++ (tables_1_1 ++ tables_1_2) := List.mem_append_right _ (List.mem_append_right _ (List.mem_of_getElem? (i := 72) rfl))
theorem zj_262 : (.laysFinal "LockerRowsModel" "LockerRowsModel" "late" "[Z" : Cond) ∈ k2_sels lw_privs ++ (tables_1_1 ++ tables_1_2) := List.mem_append_right _ (List.mem_append_right _ (List.mem_of_getElem? (i := 74) rfl))
theorem zj_263 : (.laysFinal "LockerRowsModel" "LockerRowsModel" "kept" "[J" : Cond) ∈ k2_sels lw_privs ++ (tables_1_1 ++ tables_1_2) := List.mem_append_right _ (List.mem_append_right _ (List.mem_of_getElem? (i := 76) rfl))
theorem zj_264 : (.lays "LockerRowsModel" "LockerRowsModel" "time" "J" : Cond) ∈ k2_sels lw_privs ++ (tables_1_1 ++ tables_1_2) := List.mem_append_right _ (List.mem_append_right _ (List.mem_of_getElem? (i := 78) rfl))
theorem zj_265 : (.lays "LockerRowsModel" "LockerRowsModel" "alarms" "I" : Cond) ∈ k2_sels lw_privs ++ (tables_1_1 ++ tables_1_2) := List.mem_append_right _ (List.mem_append_right _ (List.mem_of_getElem? (i := 80) rfl))
theorem zj_266 : (.lays "LockerRowsModel" "LockerRowsModel" "wrong" "I" : Cond) ∈ k2_sels lw_privs ++ (tables_1_1 ++ tables_1_2) := List.mem_append_right _ (List.mem_append_right _ (List.mem_of_getElem? (i := 82) rfl))
theorem zj_267 : (.lays "LockerRowsModel" "LockerRowsModel" "waits" "J" : Cond) ∈ k2_sels lw_privs ++ (tables_1_1 ++ tables_1_2) := List.mem_append_right _ (List.mem_append_right _ (List.mem_of_getElem? (i := 84) rfl))
theorem zj_268 : (.lays "LockerRowsModel" "LockerRowsModel" "taped" "I" : Cond) ∈ k2_sels lw_privs ++ (tables_1_1 ++ tables_1_2) := List.mem_append_right _ (List.mem_append_right _ (List.mem_of_getElem? (i := 86) rfl))
theorem zj_269 : (.laysFinal "LockerRowsModel" "LockerRowsModel" "tape" "[I" : Cond) ∈ k2_sels lw_privs ++ (tables_1_1 ++ tables_1_2) := List.mem_append_right _ (List.mem_append_right _ (List.mem_of_getElem? (i := 88) rfl))
theorem zj_270 : (.lays "LockerRowsModel" "LockerRowsModel" "freed" "I" : Cond) ∈ k2_sels lw_privs ++ (tables_1_1 ++ tables_1_2) := List.mem_append_right _ (List.mem_append_right _ (List.mem_of_getElem? (i := 90) rfl))
theorem zj_271 : (.laysFinal "LockerRowsModel" "LockerRowsModel" "free" "[I" : Cond) ∈ k2_sels lw_privs ++ (tables_1_1 ++ tables_1_2) := List.mem_append_right _ (List.mem_append_right _ (List.mem_of_getElem? (i := 92) rfl))
theorem zj_272 : (.arrayClass .long : Cond) ∈ k2_sels lw_privs ++ (tables_1_1 ++ tables_1_2) := List.mem_append_right _ (List.mem_append_right _ (List.mem_of_getElem? (i := 95) rfl))
theorem zj_273 : (.arrayClass .boolean : Cond) ∈ k2_sels lw_privs ++ (tables_1_1 ++ tables_1_2) := List.mem_append_right _ (List.mem_append_right _ (List.mem_of_getElem? (i := 96) rfl))
theorem zj_274 : (.methodLink RzW 17 yz_M_box : Cond) ∈ k2_sels lw_privs ++ (tables_1_1 ++ tables_1_2) := List.mem_append_right _ (List.mem_append_right _ (List.mem_of_getElem? (i := 97) rfl))
theorem zj_275 : (.instanceMethod yz_M_box : Cond) ∈ k2_sels lw_privs ++ (tables_1_1 ++ tables_1_2) := List.mem_append_right _ (List.mem_append_right _ (List.mem_of_getElem? (i := 98) rfl))
theorem zj_276 : (.selects RzM yz_M_box yz_M_box : Cond) ∈ k2_sels lw_privs ++ (tables_1_1 ++ tables_1_2) := List.mem_append_right _ (List.mem_append_right _ (List.mem_of_getElem? (i := 99) rfl))
theorem zj_277 : (.code yz_M_box cz_M_box 2 (some .int) : Cond) ∈ k2_sels lw_privs ++ (tables_1_1 ++ tables_1_2) := List.mem_append_right _ (List.mem_append_right _ (List.mem_of_getElem? (i := 100) rfl))
theorem zj_278 : (.constantLong RzM 53 5 : Cond) ∈ k2_sels lw_privs ++ (tables_1_1 ++ tables_1_2) := List.mem_append_right _ (List.mem_append_right _ (List.mem_of_getElem? (i := 101) rfl))
theorem zj_279 : (.methodLink RzM 49 yz_M_within : Cond) ∈ k2_sels lw_privs ++ (tables_1_1 ++ tables_1_2) := List.mem_append_right _ (List.mem_append_right _ (List.mem_of_getElem? (i := 102) rfl))
theorem zj_280 : (.static yz_M_within : Cond) ∈ k2_sels lw_privs ++ (tables_1_1 ++ tables_1_2) := List.mem_append_right _ (List.mem_append_right _ (List.mem_of_getElem? (i := 103) rfl))
theorem zj_281 : (.code yz_M_within cz_M_within 6 (some .boolean) : Cond) ∈ k2_sels lw_privs ++ (tables_1_1 ++ tables_1_2) := List.mem_append_right _ (List.mem_append_right _ (List.mem_of_getElem? (i := 104) rfl))
theorem zj_282 : (.methodLink RzW 21 yz_M_tape : Cond) ∈ k2_sels lw_privs ++ (tables_1_1 ++ tables_1_2) := List.mem_append_right _ (List.mem_append_right _ (List.mem_of_getElem? (i := 105) rfl))
theorem zj_283 : (.instanceMethod yz_M_tape : Cond) ∈ k2_sels lw_privs ++ (tables_1_1 ++ tables_1_2) := List.mem_append_right _ (List.mem_append_right _ (List.mem_of_getElem? (i := 106) rfl))
theorem zj_284 : (.selects RzM yz_M_tape yz_M_tape : Cond) ∈ k2_sels lw_privs ++ (tables_1_1 ++ tables_1_2) := List.mem_append_right _ (List.mem_append_right _ (List.mem_of_getElem? (i := 107) rfl))
theorem zj_285 : (.code yz_M_tape cz_M_tape 2 (some .int) : Cond) ∈ k2_sels lw_privs ++ (tables_1_1 ++ tables_1_2) := List.mem_append_right _ (List.mem_append_right _ (List.mem_of_getElem? (i := 108) rfl))
theorem zj_286 : (.constantLong RzM 55 999999 : Cond) ∈ k2_sels lw_privs ++ (tables_1_1 ++ tables_1_2) := List.mem_append_right _ (List.mem_append_right _ (List.mem_of_getElem? (i := 109) rfl))
theorem zj_287 : (.methodLink RzW 28 yz_M_reserve : Cond) ∈ k2_sels lw_privs ++ (tables_1_1 ++ tables_1_2) := List.mem_append_right _ (List.mem_append_right _ (List.mem_of_getElem? (i := 110) rfl))
theorem zj_288 : (.instanceMethod yz_M_reserve : Cond) ∈ k2_sels lw_privs ++ (tables_1_1 ++ tables_1_2) := List.mem_append_right _ (List.mem_append_right _ (List.mem_of_getElem? (i := 111) rfl))
theorem zj_289 : (.selects RzM yz_M_reserve yz_M_reserve : Cond) ∈ k2_sels lw_privs ++ (tables_1_1 ++ tables_1_2) := List.mem_append_right _ (List.mem_append_right _ (List.mem_of_getElem? (i := 112) rfl))
theorem zj_290 : (.code yz_M_reserve cz_M_reserve 7 (some .int) : Cond) ∈ k2_sels lw_privs ++ (tables_1_1 ++ tables_1_2) := List.mem_append_right _ (List.mem_append_right _ (List.mem_of_getElem? (i := 113) rfl))
theorem zj_291 : (.constantLong RzM 64 2000000000 : Cond) ∈ k2_sels lw_privs ++ (tables_1_1 ++ tables_1_2) := List.mem_append_right _ (List.mem_append_right _ (List.mem_of_getElem? (i := 114) rfl))
theorem zj_292 : (.methodLink RzW 33 yz_M_put : Cond) ∈ k2_sels lw_privs ++ (tables_1_1 ++ tables_1_2) := List.mem_append_right _ (List.mem_append_right _ (List.mem_of_getElem? (i := 115) rfl))
theorem zj_293 : (.instanceMethod yz_M_put : Cond) ∈ k2_sels lw_privs ++ (tables_1_1 ++ tables_1_2) := List.mem_append_right _ (List.mem_append_right _ (List.mem_of_getElem? (i := 116) rfl))
theorem zj_294 : (.selects RzM yz_M_put yz_M_put : Cond) ∈ k2_sels lw_privs ++ (tables_1_1 ++ tables_1_2) := List.mem_append_right _ (List.mem_append_right _ (List.mem_of_getElem? (i := 117) rfl))
theorem zj_295 : (.code yz_M_put cz_M_put 7 (some .int) : Cond) ∈ k2_sels lw_privs ++ (tables_1_1 ++ tables_1_2) := List.mem_append_right _ (List.mem_append_right _ (List.mem_of_getElem? (i := 118) rfl))
theorem zj_296 : (.methodLink RzM 76 yz_M_isBox : Cond) ∈ k2_sels lw_privs ++ (tables_1_1 ++ tables_1_2) := List.mem_append_right _ (List.mem_append_right _ (List.mem_of_getElem? (i := 119) rfl))
theorem zj_297 : (.instanceMethod yz_M_isBox : Cond) ∈ k2_sels lw_privs ++ (tables_1_1 ++ tables_1_2) := List.mem_append_right _ (List.mem_append_right _ (List.mem_of_getElem? (i := 121) rfl))
theorem zj_298 : (.code yz_M_isBox cz_M_isBox 2 (some .boolean) : Cond) ∈ k2_sels lw_privs ++ (tables_1_1 ++ tables_1_2) := List.mem_append_right _ (List.mem_append_right _ (List.mem_of_getElem? (i := 122) rfl))
theorem zj_299 : (.constantLong RzM 80 9999 : Cond) ∈ k2_sels lw_privs ++ (tables_1_1 ++ tables_1_2) := List.mem_append_right _ (List.mem_append_right _ (List.mem_of_getElem? (i := 123) rfl))
theorem zj_300 : (.methodLink RzM 82 yz_M_isNoTime : Cond) ∈ k2_sels lw_privs ++ (tables_1_1 ++ tables_1_2) := List.mem_append_right _ (List.mem_append_right _ (List.mem_of_getElem? (i := 124) rfl))
theorem zj_301 : (.instanceMethod yz_M_isNoTime : Cond) ∈ k2_sels lw_privs ++ (tables_1_1 ++ tables_1_2) := List.mem_append_right _ (List.mem_append_right _ (List.mem_of_getElem? (i := 126) rfl))
theorem zj_302 : (.code yz_M_isNoTime cz_M_isNoTime 3 (some .boolean) : Cond) ∈ k2_sels lw_privs ++ (tables_1_1 ++ tables_1_2) := List.mem_append_right _ (List.mem_append_right _ (List.mem_of_getElem? (i := 127) rfl))
theorem zj_303 : (.methodLink RzM 86 yz_M_pass : Cond) ∈ k2_sels lw_privs ++ (tables_1_1 ++ tables_1_2) := List.mem_append_right _ (List.mem_append_right _ (List.mem_of_getElem? (i := 128) rfl))
theorem zj_304 : (.instanceMethod yz_M_pass : Cond) ∈ k2_sels lw_privs ++ (tables_1_1 ++ tables_1_2) := List.mem_append_right _ (List.mem_append_right _ (List.mem_of_getElem? (i := 130) rfl))
theorem zj_305 : (.code yz_M_pass cz_M_pass 5 (Option.none : Option Jvm.ClassFile.FieldType) : Cond) ∈ k2_sels lw_privs ++ (tables_1_1 ++ tables_1_2) := List.mem_append_right _ (List.mem_append_right _ (List.mem_of_getElem? (i := 131) rfl))
theorem zj_306 : (.constantLong RzM 69 120 : Cond) ∈ k2_sels lw_privs ++ (tables_1_1 ++ tables_1_2) := List.mem_append_right _ (List.mem_append_right _ (List.mem_of_getElem? (i := 132) rfl))
theorem zj_307 : (.constantLong RzM 74 604800 : Cond) ∈ k2_sels lw_privs ++ (tables_1_1 ++ tables_1_2) := List.mem_append_right _ (List.mem_append_right _ (List.mem_of_getElem? (i := 133) rfl))
theorem zj_308 : (.methodLink RzW 37 yz_M_close : Cond) ∈ k2_sels lw_privs ++ (tables_1_1 ++ tables_1_2) := List.mem_append_right _ (List.mem_append_right _ (List.mem_of_getElem? (i := 134) rfl))
theorem zj_309 : (.instanceMethod yz_M_close : Cond) ∈ k2_sels lw_privs ++ (tables_1_1 ++ tables_1_2) := List.mem_append_right _ (List.mem_append_right _ (List.mem_of_getElem? (i := 135) rfl))
theorem zj_310 : (.selects RzM yz_M_close yz_M_close : Cond) ∈ k2_sels lw_privs ++ (tables_1_1 ++ tables_1_2) := List.mem_append_right _ (List.mem_append_right _ (List.mem_of_getElem? (i := 136) rfl))
theorem zj_311 : (.code yz_M_close cz_M_close 7 (some .int) : Cond) ∈ k2_sels lw_privs ++ (tables_1_1 ++ tables_1_2) := List.mem_append_right _ (List.mem_append_right _ (List.mem_of_getElem? (i := 137) rfl))
theorem zj_312 : (.methodLink RzM 90 yz_M_isCode : Cond) ∈ k2_sels lw_privs ++ (tables_1_1 ++ tables_1_2) := List.mem_append_right _ (List.mem_append_right _ (List.mem_of_getElem? (i := 138) rfl))
theorem zj_313 : (.instanceMethod yz_M_isCode : Cond) ∈ k2_sels lw_privs ++ (tables_1_1 ++ tables_1_2) := List.mem_append_right _ (List.mem_append_right _ (List.mem_of_getElem? (i := 140) rfl))
theorem zj_314 : (.code yz_M_isCode cz_M_isCode 3 (some .boolean) : Cond) ∈ k2_sels lw_privs ++ (tables_1_1 ++ tables_1_2) := List.mem_append_right _ (List.mem_append_right _ (List.mem_of_getElem? (i := 141) rfl))
theorem zj_315 : (.methodLink RzW 41 yz_M_type : Cond) ∈ k2_sels lw_privs ++ (tables_1_1 ++ tables_1_2) := List.mem_append_right _ (List.mem_append_right _ (List.mem_of_getElem? (i := 142) rfl))
theorem zj_316 : (.instanceMethod yz_M_type : Cond) ∈ k2_sels lw_privs ++ (tables_1_1 ++ tables_1_2) := List.mem_append_right _ (List.mem_append_right _ (List.mem_of_getElem? (i := 143) rfl))
theorem zj_317 : (.selects RzM yz_M_type yz_M_type : Cond) ∈ k2_sels lw_privs ++ (tables_1_1 ++ tables_1_2) := List.mem_append_right _ (List.mem_append_right _ (List.mem_of_getElem? (i := 144) rfl))
theorem zj_318 : (.code yz_M_type cz_M_type 5 (some .int) : Cond) ∈ k2_sels lw_privs ++ (tables_1_1 ++ tables_1_2) := List.mem_append_right _ (List.mem_append_right _ (List.mem_of_getElem? (i := 145) rfl))
theorem zj_319 : (.methodLink RzM 96 yz_M_out : Cond) ∈ k2_sels lw_privs ++ (tables_1_1 ++ tables_1_2) := List.mem_append_right _ (List.mem_append_right _ (List.mem_of_getElem? (i := 146) rfl))
theorem zj_320 : (.instanceMethod yz_M_out : Cond) ∈ k2_sels lw_privs ++ (tables_1_1 ++ tables_1_2) := List.mem_append_right _ (List.mem_append_right _ (List.mem_of_getElem? (i := 148) rfl))
theorem zj_321 : (.code yz_M_out cz_M_out 3 (some .int) : Cond) ∈ k2_sels lw_privs ++ (tables_1_1 ++ tables_1_2) := List.mem_append_right _ (List.mem_append_right _ (List.mem_of_getElem? (i := 149) rfl))
theorem zj_322 : (.methodLink RzM 100 yz_M_open : Cond) ∈ k2_sels lw_privs ++ (tables_1_1 ++ tables_1_2) := List.mem_append_right _ (List.mem_append_right _ (List.mem_of_getElem? (i := 150) rfl))
theorem zj_323 : (.instanceMethod yz_M_open : Cond) ∈ k2_sels lw_privs ++ (tables_1_1 ++ tables_1_2) := List.mem_append_right _ (List.mem_append_right _ (List.mem_of_getElem? (i := 152) rfl))
theorem zj_324 : (.code yz_M_open cz_M_open 3 (Option.none : Option Jvm.ClassFile.FieldType) : Cond) ∈ k2_sels lw_privs ++ (tables_1_1 ++ tables_1_2) := List.mem_append_right _ (List.mem_append_right _ (List.mem_of_getElem? (i := 153) rfl))
theorem zj_325 : (.constantLong RzM 107 300 : Cond) ∈ k2_sels lw_privs ++ (tables_1_1 ++ tables_1_2) := List.mem_append_right _ (List.mem_append_right _ (List.mem_of_getElem? (i := 154) rfl))
theorem zj_326 : (.methodLink RzW 45 yz_M_code : Cond) ∈ k2_sels lw_privs ++ (tables_1_1 ++ tables_1_2) := List.mem_append_right _ (List.mem_append_right _ (List.mem_of_getElem? (i := 155) rfl))
theorem zj_327 : (.instanceMethod yz_M_code : Cond) ∈ k2_sels lw_privs ++ (tables_1_1 ++ tables_1_2) := List.mem_append_right _ (List.mem_append_right _ (List.mem_of_getElem? (i := 156) rfl))
theorem zj_328 : (.selects RzM yz_M_code yz_M_code : Cond) ∈ k2_sels lw_privs ++ (tables_1_1 ++ tables_1_2) := List.mem_append_right _ (List.mem_append_right _ (List.mem_of_getElem? (i := 157) rfl))
theorem zj_329 : (.code yz_M_code cz_M_code 3 (some .int) : Cond) ∈ k2_sels lw_privs ++ (tables_1_1 ++ tables_1_2) := List.mem_append_right _ (List.mem_append_right _ (List.mem_of_getElem? (i := 158) rfl))
theorem zj_330 : (.methodLink RzW 49 yz_M_door : Cond) ∈ k2_sels lw_privs ++ (tables_1_1 ++ tables_1_2) := List.mem_append_right _ (List.mem_append_right _ (List.mem_of_getElem? (i := 159) rfl))
theorem zj_331 : (.instanceMethod yz_M_door : Cond) ∈ k2_sels lw_privs ++ (tables_1_1 ++ tables_1_2) := List.mem_append_right _ (List.mem_append_right _ (List.mem_of_getElem? (i := 160) rfl))
theorem zj_332 : (.selects RzM yz_M_door yz_M_door : Cond) ∈ k2_sels lw_privs ++ (tables_1_1 ++ tables_1_2) := List.mem_append_right _ (List.mem_append_right _ (List.mem_of_getElem? (i := 161) rfl))
theorem zj_333 : (.code yz_M_door cz_M_door 7 (some .int) : Cond) ∈ k2_sels lw_privs ++ (tables_1_1 ++ tables_1_2) := List.mem_append_right _ (List.mem_append_right _ (List.mem_of_getElem? (i := 162) rfl))
theorem zj_334 : (.constantLong RzM 109 4 : Cond) ∈ k2_sels lw_privs ++ (tables_1_1 ++ tables_1_2) := List.mem_append_right _ (List.mem_append_right _ (List.mem_of_getElem? (i := 163) rfl))
theorem zj_335 : (.methodLink RzW 54 yz_M_tick : Cond) ∈ k2_sels lw_privs ++ (tables_1_1 ++ tables_1_2) := List.mem_append_right _ (List.mem_append_right _ (List.mem_of_getElem? (i := 164) rfl))
theorem zj_336 : (.instanceMethod yz_M_tick : Cond) ∈ k2_sels lw_privs ++ (tables_1_1 ++ tables_1_2) := List.mem_append_right _ (List.mem_append_right _ (List.mem_of_getElem? (i := 165) rfl))
theorem zj_337 : (.selects RzM yz_M_tick yz_M_tick : Cond) ∈ k2_sels lw_privs ++ (tables_1_1 ++ tables_1_2) := List.mem_append_right _ (List.mem_append_right _ (List.mem_of_getElem? (i := 166) rfl))
theorem zj_338 : (.code yz_M_tick cz_M_tick 4 (some .int) : Cond) ∈ k2_sels lw_privs ++ (tables_1_1 ++ tables_1_2) := List.mem_append_right _ (List.mem_append_right _ (List.mem_of_getElem? (i := 167) rfl))
theorem zj_339 : (.methodLink RzW 59 yz_M_take : Cond) ∈ k2_sels lw_privs ++ (tables_1_1 ++ tables_1_2) := List.mem_append_right _ (List.mem_append_right _ (List.mem_of_getElem? (i := 168) rfl))
theorem zj_340 : (.instanceMethod yz_M_take : Cond) ∈ k2_sels lw_privs ++ (tables_1_1 ++ tables_1_2) := List.mem_append_right _ (List.mem_append_right _ (List.mem_of_getElem? (i := 169) rfl))
theorem zj_341 : (.selects RzM yz_M_take yz_M_take : Cond) ∈ k2_sels lw_privs ++ (tables_1_1 ++ tables_1_2) := List.mem_append_right _ (List.mem_append_right _ (List.mem_of_getElem? (i := 170) rfl))
theorem zj_342 : (.code yz_M_take cz_M_take 3 (some .int) : Cond) ∈ k2_sels lw_privs ++ (tables_1_1 ++ tables_1_2) := List.mem_append_right _ (List.mem_append_right _ (List.mem_of_getElem? (i := 171) rfl))
theorem zj_343 : (.constantLong RzM 111 9 : Cond) ∈ k2_sels lw_privs ++ (tables_1_1 ++ tables_1_2) := List.mem_append_right _ (List.mem_append_right _ (List.mem_of_getElem? (i := 172) rfl))
theorem zj_344 : (.methodLink RzW 63 yz_M_item : Cond) ∈ k2_sels lw_privs ++ (tables_1_1 ++ tables_1_2) := List.mem_append_right _ (List.mem_append_right _ (List.mem_of_getElem? (i := 173) rfl))
theorem zj_345 : (.instanceMethod yz_M_item : Cond) ∈ k2_sels lw_privs ++ (tables_1_1 ++ tables_1_2) := List.mem_append_right _ (List.mem_append_right _ (List.mem_of_getElem? (i := 174) rfl))
theorem zj_346 : (.selects RzM yz_M_item yz_M_item : Cond) ∈ k2_sels lw_privs ++ (tables_1_1 ++ tables_1_2) := List.mem_append_right _ (List.mem_append_right _ (List.mem_of_getElem? (i := 175) rfl))
theorem zj_347 : (.code yz_M_item cz_M_item 2 (some .int) : Cond) ∈ k2_sels lw_privs ++ (tables_1_1 ++ tables_1_2) := List.mem_append_right _ (List.mem_append_right _ (List.mem_of_getElem? (i := 176) rfl))
theorem zj_348 : (.methodLink RzW 67 yz_M_freed : Cond) ∈ k2_sels lw_privs ++ (tables_1_1 ++ tables_1_2) := List.mem_append_right _ (List.mem_append_right _ (List.mem_of_getElem? (i := 177) rfl))
theorem zj_349 : (.instanceMethod yz_M_freed : Cond) ∈ k2_sels lw_privs ++ (tables_1_1 ++ tables_1_2) := List.mem_append_right _ (List.mem_append_right _ (List.mem_of_getElem? (i := 178) rfl))
theorem zj_350 : (.selects RzM yz_M_freed yz_M_freed : Cond) ∈ k2_sels lw_privs ++ (tables_1_1 ++ tables_1_2) := List.mem_append_right _ (List.mem_append_right _ (List.mem_of_getElem? (i := 179) rfl))
theorem zj_351 : (.code yz_M_freed cz_M_freed 2 (some .int) : Cond) ∈ k2_sels lw_privs ++ (tables_1_1 ++ tables_1_2) := List.mem_append_right _ (List.mem_append_right _ (List.mem_of_getElem? (i := 180) rfl))
theorem zj_352 : (.constantLong RzW 22 4294967295 : Cond) ∈ k2_sels lw_privs ++ (tables_1_1 ++ tables_1_2) := List.mem_append_right _ (List.mem_append_right _ (List.mem_of_getElem? (i := 181) rfl))
theorem zk_0 : (.arrayOver (.object "LockerRows$Box") : Cond) ∈ k2_sels lw_privs ++ (tables_1_1 ++ tables_1_2) := List.mem_append_right _ (List.mem_append_left _ (List.mem_of_getElem? (i := 15) rfl))
theorem zk_1 : (.methodLinkNest RzL 21 yz_T_init "LockerRows" : Cond) ∈ k2_sels lw_privs ++ (tables_1_1 ++ tables_1_2) := List.mem_append_right _ (List.mem_append_left _ (List.mem_of_getElem? (i := 18) rfl))
theorem zk_2 : (.methodLinkNest RzL 50 yz_B_init "LockerRows" : Cond) ∈ k2_sels lw_privs ++ (tables_1_1 ++ tables_1_2) := List.mem_append_right _ (List.mem_append_left _ (List.mem_of_getElem? (i := 66) rfl))
theorem zk_3 : (.fieldLinkNest RzL 151 "LockerRows$Box" "size" "I" "LockerRows" : Cond) ∈ k2_sels lw_privs ++ (tables_1_1 ++ tables_1_2) := List.mem_append_right _ (List.mem_append_left _ (List.mem_of_getElem? (i := 71) rfl))
theorem zk_4 : (.fieldLinkNest RzL 87 "LockerRows$Box" "door" "I" "LockerRows" : Cond) ∈ k2_sels lw_privs ++ (tables_1_1 ++ tables_1_2) := List.mem_append_right _ (List.mem_append_left _ (List.mem_of_getElem? (i := 73) rfl))
theorem zk_5 : (.fieldLinkNest RzL 137 "LockerRows$Box" "item" "I" "LockerRows" : Cond) ∈ k2_sels lw_privs ++ (tables_1_1 ++ tables_1_2) := List.mem_append_right _ (List.mem_append_left _ (List.mem_of_getElem? (i := 77) rfl))
theorem zk_6 : (.fieldLinkNest RzL 122 "LockerRows$Box" "code" "I" "LockerRows" : Cond) ∈ k2_sels lw_privs ++ (tables_1_1 ++ tables_1_2) := List.mem_append_right _ (List.mem_append_left _ (List.mem_of_getElem? (i := 79) rfl))
theorem zk_7 : (.fieldLinkNest RzL 140 "LockerRows$Box" "late" "Z" "LockerRows" : Cond) ∈ k2_sels lw_privs ++ (tables_1_1 ++ tables_1_2) := List.mem_append_right _ (List.mem_append_left _ (List.mem_of_getElem? (i := 82) rfl))
theorem zk_8 : (.fieldLinkNest RzL 73 "LockerRows$Box" "keptUntil" "J" "LockerRows" : Cond) ∈ k2_sels lw_privs ++ (tables_1_1 ++ tables_1_2) := List.mem_append_right _ (List.mem_append_left _ (List.mem_of_getElem? (i := 84) rfl))
theorem zk_9 : (.methodLinkNest RzL 56 yz_T_append "LockerRows" : Cond) ∈ k2_sels lw_privs ++ (tables_1_1 ++ tables_1_2) := List.mem_append_right _ (List.mem_append_left _ (List.mem_of_getElem? (i := 112) rfl))
theorem zk_10 : (.methodLinkNest RzL 59 yz_T_length "LockerRows" : Cond) ∈ k2_sels lw_privs ++ (tables_1_1 ++ tables_1_2) := List.mem_append_right _ (List.mem_append_left _ (List.mem_of_getElem? (i := 116) rfl))
theorem zk_11 : (.methodLinkNest RzL 148 yz_B_isUnused "LockerRows" : Cond) ∈ k2_sels lw_privs ++ (tables_1_1 ++ tables_1_2) := List.mem_append_right _ (List.mem_append_left _ (List.mem_of_getElem? (i := 133) rfl))
theorem zk_12 : (.methodLinkNest RzL 162 yz_B_freeIfDue "LockerRows" : Cond) ∈ k2_sels lw_privs ++ (tables_1_1 ++ tables_1_2) := List.mem_append_right _ (List.mem_append_left _ (List.mem_of_getElem? (i := 156) rfl))
theorem zk_13 : (.methodLinkNest RzL 168 yz_B_tellAlarms "LockerRows" : Cond) ∈ k2_sels lw_privs ++ (tables_1_1 ++ tables_1_2) := List.mem_append_right _ (List.mem_append_left _ (List.mem_of_getElem? (i := 164) rfl))
theorem zk_14 : (.methodLinkNest RzL 90 yz_B_isEmpty "LockerRows" : Cond) ∈ k2_sels lw_privs ++ (tables_1_1 ++ tables_1_2) := List.mem_append_right _ (List.mem_append_left _ (List.mem_of_getElem? (i := 178) rfl))
theorem zk_15 : (.methodLinkNest RzL 97 yz_B_receive "LockerRows" : Cond) ∈ k2_sels lw_privs ++ (tables_1_1 ++ tables_1_2) := List.mem_append_right _ (List.mem_append_left _ (List.mem_of_getElem? (i := 183) rfl))
theorem zk_16 : (.methodLinkNest RzL 100 yz_B_wantsCode "LockerRows" : Cond) ∈ k2_sels lw_privs ++ (tables_1_1 ++ tables_1_2) := List.mem_append_right _ (List.mem_append_left _ (List.mem_of_getElem? (i := 191) rfl))
theorem zk_17 : (.methodLinkNest RzL 154 yz_T_at "LockerRows" : Cond) ∈ k2_sels lw_privs ++ (tables_1_1 ++ tables_1_2) := List.mem_append_right _ (List.mem_append_left _ (List.mem_of_getElem? (i := 199) rfl))
theorem zk_18 : (.methodLinkNest RzL 145 yz_B_lies "LockerRows" : Cond) ∈ k2_sels lw_privs ++ (tables_1_1 ++ tables_1_2) := List.mem_append_right _ (List.mem_append_left _ (List.mem_of_getElem? (i := 207) rfl))
theorem zk_19 : (.methodLinkNest RzL 157 yz_T_dropFirst "LockerRows" : Cond) ∈ k2_sels lw_privs ++ (tables_1_1 ++ tables_1_2) := List.mem_append_right _ (List.mem_append_left _ (List.mem_of_getElem? (i := 208) rfl))
theorem zk_20 : (.methodLinkNest RzL 106 yz_B_layDown "LockerRows" : Cond) ∈ k2_sels lw_privs ++ (tables_1_1 ++ tables_1_2) := List.mem_append_right _ (List.mem_append_left _ (List.mem_of_getElem? (i := 215) rfl))
theorem zk_21 : (.methodLinkNest RzL 116 yz_B_clear "LockerRows" : Cond) ∈ k2_sels lw_privs ++ (tables_1_1 ++ tables_1_2) := List.mem_append_right _ (List.mem_append_left _ (List.mem_of_getElem? (i := 228) rfl))
theorem zk_22 : (.methodLinkNest RzL 119 yz_B_beginOpening "LockerRows" : Cond) ∈ k2_sels lw_privs ++ (tables_1_1 ++ tables_1_2) := List.mem_append_right _ (List.mem_append_left _ (List.mem_of_getElem? (i := 232) rfl))
theorem zk_23 : (.methodLinkNest RzL 125 yz_B_isEvent "LockerRows" : Cond) ∈ k2_sels lw_privs ++ (tables_1_1 ++ tables_1_2) := List.mem_append_right _ (List.mem_append_right _ (List.mem_of_getElem? (i := 4) rfl))
theorem zk_24 : (.methodLinkNest RzL 128 yz_B_admits "LockerRows" : Cond) ∈ k2_sels lw_privs ++ (tables_1_1 ++ tables_1_2) := List.mem_append_right _ (List.mem_append_right _ (List.mem_of_getElem? (i := 7) rfl))
theorem zk_25 : (.methodLinkNest RzL 131 yz_B_undergo "LockerRows" : Cond) ∈ k2_sels lw_privs ++ (tables_1_1 ++ tables_1_2) := List.mem_append_right _ (List.mem_append_right _ (List.mem_of_getElem? (i := 12) rfl))
theorem zk_26 : (.methodLinkNest RzL 134 yz_B_isOpenOrForced "LockerRows" : Cond) ∈ k2_sels lw_privs ++ (tables_1_1 ++ tables_1_2) := List.mem_append_right _ (List.mem_append_right _ (List.mem_of_getElem? (i := 25) rfl))
def zw_T_0 : List Cond := [
  .selects RzT yz_T_append yz_T_append,
  .selects RzT yz_T_length yz_T_length,
  .selects RzL yz_L_smallestUnused yz_L_smallestUnused,
  .selects RzL yz_L_boxAt yz_L_boxAt,
  .selects RzB yz_B_isUnused yz_B_isUnused,
  .selects RzB yz_B_isEmpty yz_B_isEmpty,
  .selects RzL yz_L_isTime yz_L_isTime,
  .selects RzL yz_L_passTo yz_L_passTo,
  .selects RzB yz_B_freeIfDue yz_B_freeIfDue,
  .selects RzL yz_L_noteFreed yz_L_noteFreed,
  .selects RzB yz_B_tellAlarms yz_B_tellAlarms,
  .selects RzB yz_B_isOpenOrForced yz_B_isOpenOrForced,
  .selects RzB yz_B_lies yz_B_lies,
  .selects RzL yz_L_boxOfItem yz_L_boxOfItem,
  .selects RzB yz_B_receive yz_B_receive,
  .selects RzB yz_B_wantsCode yz_B_wantsCode]
theorem zw_s_0 : ∀ w ∈ zw_T_0, w ∈ lw_tbl := by rw [zw_lt]; exact List.forall_mem_cons.mpr ⟨zj_0, List.forall_mem_cons.mpr ⟨zj_1, List.forall_mem_cons.mpr ⟨zj_2, List.forall_mem_cons.mpr ⟨zj_3, List.forall_mem_cons.mpr ⟨zj_4, List.forall_mem_cons.mpr ⟨zj_5, List.forall_mem_cons.mpr ⟨zj_6, List.forall_mem_cons.mpr ⟨zj_7, List.forall_mem_cons.mpr ⟨zj_8, List.forall_mem_cons.mpr ⟨zj_9, List.forall_mem_cons.mpr ⟨zj_10, List.forall_mem_cons.mpr ⟨zj_11, List.forall_mem_cons.mpr ⟨zj_12, List.forall_mem_cons.mpr ⟨zj_13, List.forall_mem_cons.mpr ⟨zj_14, List.forall_mem_cons.mpr ⟨zj_15, fun _ h => absurd h List.not_mem_nil⟩⟩⟩⟩⟩⟩⟩⟩⟩⟩⟩⟩⟩⟩⟩⟩
def zw_T_1 : List Cond := [
  .selects RzL yz_L_wantedCode yz_L_wantedCode,
  .selects RzT yz_T_at yz_T_at,
  .selects RzL yz_L_boxNumberOfCode yz_L_boxNumberOfCode,
  .selects RzT yz_T_dropFirst yz_T_dropFirst,
  .selects RzB yz_B_layDown yz_B_layDown,
  .selects RzL yz_L_countWrongTry yz_L_countWrongTry,
  .selects RzB yz_B_clear yz_B_clear,
  .selects RzB yz_B_beginOpening yz_B_beginOpening,
  .selects RzB yz_B_admits yz_B_admits,
  .selects RzB yz_B_undergo yz_B_undergo,
  .selects RzM yz_M_isBox yz_M_isBox,
  .selects RzM yz_M_isNoTime yz_M_isNoTime,
  .selects RzM yz_M_pass yz_M_pass,
  .selects RzM yz_M_isCode yz_M_isCode,
  .selects RzM yz_M_out yz_M_out,
  .selects RzM yz_M_open yz_M_open]
theorem zw_s_1 : ∀ w ∈ zw_T_1, w ∈ lw_tbl := by rw [zw_lt]; exact List.forall_mem_cons.mpr ⟨zj_16, List.forall_mem_cons.mpr ⟨zj_17, List.forall_mem_cons.mpr ⟨zj_18, List.forall_mem_cons.mpr ⟨zj_19, List.forall_mem_cons.mpr ⟨zj_20, List.forall_mem_cons.mpr ⟨zj_21, List.forall_mem_cons.mpr ⟨zj_22, List.forall_mem_cons.mpr ⟨zj_23, List.forall_mem_cons.mpr ⟨zj_24, List.forall_mem_cons.mpr ⟨zj_25, List.forall_mem_cons.mpr ⟨zj_26, List.forall_mem_cons.mpr ⟨zj_27, List.forall_mem_cons.mpr ⟨zj_28, List.forall_mem_cons.mpr ⟨zj_29, List.forall_mem_cons.mpr ⟨zj_30, List.forall_mem_cons.mpr ⟨zj_31, fun _ h => absurd h List.not_mem_nil⟩⟩⟩⟩⟩⟩⟩⟩⟩⟩⟩⟩⟩⟩⟩⟩
def zw_T_2 : List Cond := [
  .initialized RzW,
  .initialized RzL,
  .initialized RzT,
  .initialized RzM,
  .initialized RzB,
  .initialized "java/lang/System",
  .classLink RzW 7 RzL,
  .instantiable RzL 9,
  .methodLink RzW 9 yz_L_init,
  .instanceMethod yz_L_init,
  .code yz_L_init cz_L_init 1 (Option.none : Option Jvm.ClassFile.FieldType),
  .methodLink RzL 1 objectInit,
  .instanceMethod objectInit,
  .code objectInit ⟨#[0xb1]⟩ 1 none,
  .classLink RzL 9 RzB,
  .classLink RzL 19 RzT]
theorem zw_s_2 : ∀ w ∈ zw_T_2, w ∈ lw_tbl := by rw [zw_lt]; exact List.forall_mem_cons.mpr ⟨zj_32, List.forall_mem_cons.mpr ⟨zj_33, List.forall_mem_cons.mpr ⟨zj_34, List.forall_mem_cons.mpr ⟨zj_35, List.forall_mem_cons.mpr ⟨zj_36, List.forall_mem_cons.mpr ⟨zj_37, List.forall_mem_cons.mpr ⟨zj_38, List.forall_mem_cons.mpr ⟨zj_39, List.forall_mem_cons.mpr ⟨zj_40, List.forall_mem_cons.mpr ⟨zj_41, List.forall_mem_cons.mpr ⟨zj_42, List.forall_mem_cons.mpr ⟨zj_43, List.forall_mem_cons.mpr ⟨zj_44, List.forall_mem_cons.mpr ⟨zj_45, List.forall_mem_cons.mpr ⟨zj_46, List.forall_mem_cons.mpr ⟨zj_47, fun _ h => absurd h List.not_mem_nil⟩⟩⟩⟩⟩⟩⟩⟩⟩⟩⟩⟩⟩⟩⟩⟩
def zw_T_3 : List Cond := [
  .instantiable RzT 2,
  .instanceMethod yz_T_init,
  .code yz_T_init cz_T_init 1 (Option.none : Option Jvm.ClassFile.FieldType),
  .methodLink RzT 3 objectInit,
  .fieldLink RzT 11 "LockerRows$Tape" "row" "[I",
  .fieldLink RzT 15 "LockerRows$Tape" "count" "I",
  .laysFinal "LockerRows$Tape" "LockerRows$Tape" "row" "[I",
  .lays "LockerRows$Tape" "LockerRows$Tape" "count" "I",
  .arrayClass .int,
  .fieldLink RzL 11 "LockerRows" "boxes" "[LLockerRows$Box;",
  .fieldLink RzL 15 "LockerRows" "boxCount" "I",
  .fieldLink RzL 22 "LockerRows" "numbers" "LLockerRows$Tape;",
  .fieldLink RzL 26 "LockerRows" "freedBoxes" "[I",
  .fieldLink RzL 30 "LockerRows" "freedCount" "I",
  .fieldLink RzL 33 "LockerRows" "time" "J",
  .fieldLink RzL 37 "LockerRows" "alarms" "I"]
theorem zw_s_3 : ∀ w ∈ zw_T_3, w ∈ lw_tbl := by rw [zw_lt]; exact List.forall_mem_cons.mpr ⟨zj_48, List.forall_mem_cons.mpr ⟨zj_49, List.forall_mem_cons.mpr ⟨zj_50, List.forall_mem_cons.mpr ⟨zj_51, List.forall_mem_cons.mpr ⟨zj_52, List.forall_mem_cons.mpr ⟨zj_53, List.forall_mem_cons.mpr ⟨zj_54, List.forall_mem_cons.mpr ⟨zj_55, List.forall_mem_cons.mpr ⟨zj_56, List.forall_mem_cons.mpr ⟨zj_57, List.forall_mem_cons.mpr ⟨zj_58, List.forall_mem_cons.mpr ⟨zj_59, List.forall_mem_cons.mpr ⟨zj_60, List.forall_mem_cons.mpr ⟨zj_61, List.forall_mem_cons.mpr ⟨zj_62, List.forall_mem_cons.mpr ⟨zj_63, fun _ h => absurd h List.not_mem_nil⟩⟩⟩⟩⟩⟩⟩⟩⟩⟩⟩⟩⟩⟩⟩⟩
def zw_T_4 : List Cond := [
  .fieldLink RzL 40 "LockerRows" "wrongTries" "I",
  .fieldLink RzL 43 "LockerRows" "keypadWaitsUntil" "J",
  .laysFinal "LockerRows" "LockerRows" "boxes" "[LLockerRows$Box;",
  .lays "LockerRows" "LockerRows" "boxCount" "I",
  .laysFinal "LockerRows" "LockerRows" "numbers" "LLockerRows$Tape;",
  .laysFinal "LockerRows" "LockerRows" "freedBoxes" "[I",
  .lays "LockerRows" "LockerRows" "freedCount" "I",
  .lays "LockerRows" "LockerRows" "time" "J",
  .lays "LockerRows" "LockerRows" "alarms" "I",
  .lays "LockerRows" "LockerRows" "wrongTries" "I",
  .lays "LockerRows" "LockerRows" "keypadWaitsUntil" "J",
  .methodLink RzW 13 yz_L_box,
  .instanceMethod yz_L_box,
  .selects RzL yz_L_box yz_L_box,
  .code yz_L_box cz_L_box 2 (some .int),
  .methodLink RzL 46 yz_L_isSize]
theorem zw_s_4 : ∀ w ∈ zw_T_4, w ∈ lw_tbl := by rw [zw_lt]; exact List.forall_mem_cons.mpr ⟨zj_64, List.forall_mem_cons.mpr ⟨zj_65, List.forall_mem_cons.mpr ⟨zj_66, List.forall_mem_cons.mpr ⟨zj_67, List.forall_mem_cons.mpr ⟨zj_68, List.forall_mem_cons.mpr ⟨zj_69, List.forall_mem_cons.mpr ⟨zj_70, List.forall_mem_cons.mpr ⟨zj_71, List.forall_mem_cons.mpr ⟨zj_72, List.forall_mem_cons.mpr ⟨zj_73, List.forall_mem_cons.mpr ⟨zj_74, List.forall_mem_cons.mpr ⟨zj_75, List.forall_mem_cons.mpr ⟨zj_76, List.forall_mem_cons.mpr ⟨zj_77, List.forall_mem_cons.mpr ⟨zj_78, List.forall_mem_cons.mpr ⟨zj_79, fun _ h => absurd h List.not_mem_nil⟩⟩⟩⟩⟩⟩⟩⟩⟩⟩⟩⟩⟩⟩⟩⟩
def zw_T_5 : List Cond := [
  .static yz_L_isSize,
  .code yz_L_isSize cz_L_isSize 1 (some .boolean),
  .instantiable RzB 9,
  .instanceMethod yz_B_init,
  .code yz_B_init cz_B_init 2 (Option.none : Option Jvm.ClassFile.FieldType),
  .methodLink RzB 3 objectInit,
  .fieldLink RzB 38 "LockerRows$Box" "size" "I",
  .fieldLink RzB 9 "LockerRows$Box" "door" "I",
  .fieldLink RzB 15 "LockerRows$Box" "openSince" "J",
  .fieldLink RzB 19 "LockerRows$Box" "openingTold" "Z",
  .fieldLink RzB 23 "LockerRows$Box" "item" "I",
  .fieldLink RzB 26 "LockerRows$Box" "code" "I",
  .fieldLink RzB 29 "LockerRows$Box" "liesSince" "J",
  .fieldLink RzB 32 "LockerRows$Box" "late" "Z",
  .fieldLink RzB 35 "LockerRows$Box" "keptUntil" "J",
  .laysFinal "LockerRows$Box" "LockerRows$Box" "size" "I"]
theorem zw_s_5 : ∀ w ∈ zw_T_5, w ∈ lw_tbl := by rw [zw_lt]; exact List.forall_mem_cons.mpr ⟨zj_80, List.forall_mem_cons.mpr ⟨zj_81, List.forall_mem_cons.mpr ⟨zj_82, List.forall_mem_cons.mpr ⟨zj_83, List.forall_mem_cons.mpr ⟨zj_84, List.forall_mem_cons.mpr ⟨zj_85, List.forall_mem_cons.mpr ⟨zj_86, List.forall_mem_cons.mpr ⟨zj_87, List.forall_mem_cons.mpr ⟨zj_88, List.forall_mem_cons.mpr ⟨zj_89, List.forall_mem_cons.mpr ⟨zj_90, List.forall_mem_cons.mpr ⟨zj_91, List.forall_mem_cons.mpr ⟨zj_92, List.forall_mem_cons.mpr ⟨zj_93, List.forall_mem_cons.mpr ⟨zj_94, List.forall_mem_cons.mpr ⟨zj_95, fun _ h => absurd h List.not_mem_nil⟩⟩⟩⟩⟩⟩⟩⟩⟩⟩⟩⟩⟩⟩⟩⟩
def zw_T_6 : List Cond := [
  .lays "LockerRows$Box" "LockerRows$Box" "door" "I",
  .lays "LockerRows$Box" "LockerRows$Box" "openSince" "J",
  .lays "LockerRows$Box" "LockerRows$Box" "openingTold" "Z",
  .lays "LockerRows$Box" "LockerRows$Box" "item" "I",
  .lays "LockerRows$Box" "LockerRows$Box" "code" "I",
  .lays "LockerRows$Box" "LockerRows$Box" "liesSince" "J",
  .lays "LockerRows$Box" "LockerRows$Box" "late" "Z",
  .lays "LockerRows$Box" "LockerRows$Box" "keptUntil" "J",
  .methodLink RzW 18 yz_L_tape,
  .instanceMethod yz_L_tape,
  .selects RzL yz_L_tape yz_L_tape,
  .code yz_L_tape cz_L_tape 2 (some .int),
  .methodLink RzL 53 yz_L_isCode,
  .static yz_L_isCode,
  .code yz_L_isCode cz_L_isCode 1 (some .boolean),
  .constant RzL 144 999999]
theorem zw_s_6 : ∀ w ∈ zw_T_6, w ∈ lw_tbl := by rw [zw_lt]; exact List.forall_mem_cons.mpr ⟨zj_96, List.forall_mem_cons.mpr ⟨zj_97, List.forall_mem_cons.mpr ⟨zj_98, List.forall_mem_cons.mpr ⟨zj_99, List.forall_mem_cons.mpr ⟨zj_100, List.forall_mem_cons.mpr ⟨zj_101, List.forall_mem_cons.mpr ⟨zj_102, List.forall_mem_cons.mpr ⟨zj_103, List.forall_mem_cons.mpr ⟨zj_104, List.forall_mem_cons.mpr ⟨zj_105, List.forall_mem_cons.mpr ⟨zj_106, List.forall_mem_cons.mpr ⟨zj_107, List.forall_mem_cons.mpr ⟨zj_108, List.forall_mem_cons.mpr ⟨zj_109, List.forall_mem_cons.mpr ⟨zj_110, List.forall_mem_cons.mpr ⟨zj_111, fun _ h => absurd h List.not_mem_nil⟩⟩⟩⟩⟩⟩⟩⟩⟩⟩⟩⟩⟩⟩⟩⟩
def zw_T_7 : List Cond := [
  .instanceMethod yz_T_append,
  .code yz_T_append cz_T_append 2 (some .boolean),
  .instanceMethod yz_T_length,
  .code yz_T_length cz_T_length 1 (some .int),
  .methodLink RzW 24 yz_L_reserve,
  .instanceMethod yz_L_reserve,
  .selects RzL yz_L_reserve yz_L_reserve,
  .code yz_L_reserve cz_L_reserve 6 (some .int),
  .constantLong RzL 63 2000000000,
  .methodLink RzL 65 yz_L_smallestUnused,
  .instanceMethod yz_L_smallestUnused,
  .code yz_L_smallestUnused cz_L_smallestUnused 6 (some .int),
  .methodLink RzL 69 yz_L_boxAt,
  .instanceMethod yz_L_boxAt,
  .code yz_L_boxAt cz_L_boxAt 2 (some (.object "LockerRows$Box")),
  .instanceMethod yz_B_isUnused]
theorem zw_s_7 : ∀ w ∈ zw_T_7, w ∈ lw_tbl := by rw [zw_lt]; exact List.forall_mem_cons.mpr ⟨zj_112, List.forall_mem_cons.mpr ⟨zj_113, List.forall_mem_cons.mpr ⟨zj_114, List.forall_mem_cons.mpr ⟨zj_115, List.forall_mem_cons.mpr ⟨zj_116, List.forall_mem_cons.mpr ⟨zj_117, List.forall_mem_cons.mpr ⟨zj_118, List.forall_mem_cons.mpr ⟨zj_119, List.forall_mem_cons.mpr ⟨zj_120, List.forall_mem_cons.mpr ⟨zj_121, List.forall_mem_cons.mpr ⟨zj_122, List.forall_mem_cons.mpr ⟨zj_123, List.forall_mem_cons.mpr ⟨zj_124, List.forall_mem_cons.mpr ⟨zj_125, List.forall_mem_cons.mpr ⟨zj_126, List.forall_mem_cons.mpr ⟨zj_127, fun _ h => absurd h List.not_mem_nil⟩⟩⟩⟩⟩⟩⟩⟩⟩⟩⟩⟩⟩⟩⟩⟩
def zw_T_8 : List Cond := [
  .code yz_B_isUnused cz_B_isUnused 1 (some .boolean),
  .methodLink RzB 41 yz_B_isEmpty,
  .instanceMethod yz_B_isEmpty,
  .code yz_B_isEmpty cz_B_isEmpty 1 (some .boolean),
  .methodLink RzW 29 yz_L_put,
  .instanceMethod yz_L_put,
  .selects RzL yz_L_put yz_L_put,
  .code yz_L_put cz_L_put 6 (some .int),
  .methodLink RzL 76 yz_L_isItem,
  .static yz_L_isItem,
  .code yz_L_isItem cz_L_isItem 1 (some .boolean),
  .methodLink RzL 79 yz_L_isTime,
  .instanceMethod yz_L_isTime,
  .code yz_L_isTime cz_L_isTime 3 (some .boolean),
  .methodLink RzL 83 yz_L_passTo,
  .instanceMethod yz_L_passTo]
theorem zw_s_8 : ∀ w ∈ zw_T_8, w ∈ lw_tbl := by rw [zw_lt]; exact List.forall_mem_cons.mpr ⟨zj_128, List.forall_mem_cons.mpr ⟨zj_129, List.forall_mem_cons.mpr ⟨zj_130, List.forall_mem_cons.mpr ⟨zj_131, List.forall_mem_cons.mpr ⟨zj_132, List.forall_mem_cons.mpr ⟨zj_133, List.forall_mem_cons.mpr ⟨zj_134, List.forall_mem_cons.mpr ⟨zj_135, List.forall_mem_cons.mpr ⟨zj_136, List.forall_mem_cons.mpr ⟨zj_137, List.forall_mem_cons.mpr ⟨zj_138, List.forall_mem_cons.mpr ⟨zj_139, List.forall_mem_cons.mpr ⟨zj_140, List.forall_mem_cons.mpr ⟨zj_141, List.forall_mem_cons.mpr ⟨zj_142, List.forall_mem_cons.mpr ⟨zj_143, fun _ h => absurd h List.not_mem_nil⟩⟩⟩⟩⟩⟩⟩⟩⟩⟩⟩⟩⟩⟩⟩⟩
def zw_T_9 : List Cond := [
  .code yz_L_passTo cz_L_passTo 5 (Option.none : Option Jvm.ClassFile.FieldType),
  .instanceMethod yz_B_freeIfDue,
  .code yz_B_freeIfDue cz_B_freeIfDue 3 (some .boolean),
  .methodLink RzL 165 yz_L_noteFreed,
  .instanceMethod yz_L_noteFreed,
  .code yz_L_noteFreed cz_L_noteFreed 2 (Option.none : Option Jvm.ClassFile.FieldType),
  .instanceMethod yz_B_tellAlarms,
  .code yz_B_tellAlarms cz_B_tellAlarms 4 (some .int),
  .methodLink RzB 55 yz_B_isOpenOrForced,
  .instanceMethod yz_B_isOpenOrForced,
  .code yz_B_isOpenOrForced cz_B_isOpenOrForced 1 (some .boolean),
  .constantLong RzB 58 120,
  .methodLink RzB 45 yz_B_lies,
  .instanceMethod yz_B_lies,
  .code yz_B_lies cz_B_lies 1 (some .boolean),
  .constantLong RzB 60 604800]
theorem zw_s_9 : ∀ w ∈ zw_T_9, w ∈ lw_tbl := by rw [zw_lt]; exact List.forall_mem_cons.mpr ⟨zj_144, List.forall_mem_cons.mpr ⟨zj_145, List.forall_mem_cons.mpr ⟨zj_146, List.forall_mem_cons.mpr ⟨zj_147, List.forall_mem_cons.mpr ⟨zj_148, List.forall_mem_cons.mpr ⟨zj_149, List.forall_mem_cons.mpr ⟨zj_150, List.forall_mem_cons.mpr ⟨zj_151, List.forall_mem_cons.mpr ⟨zj_152, List.forall_mem_cons.mpr ⟨zj_153, List.forall_mem_cons.mpr ⟨zj_154, List.forall_mem_cons.mpr ⟨zj_155, List.forall_mem_cons.mpr ⟨zj_156, List.forall_mem_cons.mpr ⟨zj_157, List.forall_mem_cons.mpr ⟨zj_158, List.forall_mem_cons.mpr ⟨zj_159, fun _ h => absurd h List.not_mem_nil⟩⟩⟩⟩⟩⟩⟩⟩⟩⟩⟩⟩⟩⟩⟩⟩
def zw_T_10 : List Cond := [
  .methodLink RzL 94 yz_L_boxOfItem,
  .instanceMethod yz_L_boxOfItem,
  .code yz_L_boxOfItem cz_L_boxOfItem 4 (some (.object "LockerRows$Box")),
  .instanceMethod yz_B_receive,
  .code yz_B_receive cz_B_receive 2 (Option.none : Option Jvm.ClassFile.FieldType),
  .methodLink RzW 34 yz_L_close,
  .instanceMethod yz_L_close,
  .selects RzL yz_L_close yz_L_close,
  .code yz_L_close cz_L_close 6 (some .int),
  .instanceMethod yz_B_wantsCode,
  .code yz_B_wantsCode cz_B_wantsCode 1 (some .boolean),
  .methodLink RzL 103 yz_L_wantedCode,
  .instanceMethod yz_L_wantedCode,
  .code yz_L_wantedCode cz_L_wantedCode 3 (some .int),
  .instanceMethod yz_T_at,
  .code yz_T_at cz_T_at 2 (some .int)]
theorem zw_s_10 : ∀ w ∈ zw_T_10, w ∈ lw_tbl := by rw [zw_lt]; exact List.forall_mem_cons.mpr ⟨zj_160, List.forall_mem_cons.mpr ⟨zj_161, List.forall_mem_cons.mpr ⟨zj_162, List.forall_mem_cons.mpr ⟨zj_163, List.forall_mem_cons.mpr ⟨zj_164, List.forall_mem_cons.mpr ⟨zj_165, List.forall_mem_cons.mpr ⟨zj_166, List.forall_mem_cons.mpr ⟨zj_167, List.forall_mem_cons.mpr ⟨zj_168, List.forall_mem_cons.mpr ⟨zj_169, List.forall_mem_cons.mpr ⟨zj_170, List.forall_mem_cons.mpr ⟨zj_171, List.forall_mem_cons.mpr ⟨zj_172, List.forall_mem_cons.mpr ⟨zj_173, List.forall_mem_cons.mpr ⟨zj_174, List.forall_mem_cons.mpr ⟨zj_175, fun _ h => absurd h List.not_mem_nil⟩⟩⟩⟩⟩⟩⟩⟩⟩⟩⟩⟩⟩⟩⟩⟩
def zw_T_11 : List Cond := [
  .methodLink RzL 110 yz_L_boxNumberOfCode,
  .instanceMethod yz_L_boxNumberOfCode,
  .code yz_L_boxNumberOfCode cz_L_boxNumberOfCode 4 (some .int),
  .instanceMethod yz_T_dropFirst,
  .code yz_T_dropFirst cz_T_dropFirst 2 (Option.none : Option Jvm.ClassFile.FieldType),
  .methodLink RzT 19 arraycopyName,
  .static arraycopyName,
  .native arraycopyName,
  .instanceMethod yz_B_layDown,
  .code yz_B_layDown cz_B_layDown 4 (Option.none : Option Jvm.ClassFile.FieldType),
  .methodLink RzW 38 yz_L_type,
  .instanceMethod yz_L_type,
  .selects RzL yz_L_type yz_L_type,
  .code yz_L_type cz_L_type 6 (some .int),
  .methodLink RzL 113 yz_L_countWrongTry,
  .instanceMethod yz_L_countWrongTry]
theorem zw_s_11 : ∀ w ∈ zw_T_11, w ∈ lw_tbl := by rw [zw_lt]; exact List.forall_mem_cons.mpr ⟨zj_176, List.forall_mem_cons.mpr ⟨zj_177, List.forall_mem_cons.mpr ⟨zj_178, List.forall_mem_cons.mpr ⟨zj_179, List.forall_mem_cons.mpr ⟨zj_180, List.forall_mem_cons.mpr ⟨zj_181, List.forall_mem_cons.mpr ⟨zj_182, List.forall_mem_cons.mpr ⟨zj_183, List.forall_mem_cons.mpr ⟨zj_184, List.forall_mem_cons.mpr ⟨zj_185, List.forall_mem_cons.mpr ⟨zj_186, List.forall_mem_cons.mpr ⟨zj_187, List.forall_mem_cons.mpr ⟨zj_188, List.forall_mem_cons.mpr ⟨zj_189, List.forall_mem_cons.mpr ⟨zj_190, List.forall_mem_cons.mpr ⟨zj_191, fun _ h => absurd h List.not_mem_nil⟩⟩⟩⟩⟩⟩⟩⟩⟩⟩⟩⟩⟩⟩⟩⟩
def zw_T_12 : List Cond := [
  .code yz_L_countWrongTry cz_L_countWrongTry 3 (Option.none : Option Jvm.ClassFile.FieldType),
  .constantLong RzL 160 300,
  .instanceMethod yz_B_clear,
  .code yz_B_clear cz_B_clear 1 (Option.none : Option Jvm.ClassFile.FieldType),
  .instanceMethod yz_B_beginOpening,
  .code yz_B_beginOpening cz_B_beginOpening 4 (Option.none : Option Jvm.ClassFile.FieldType),
  .methodLink RzW 42 yz_L_code,
  .instanceMethod yz_L_code,
  .selects RzL yz_L_code yz_L_code,
  .code yz_L_code cz_L_code 3 (some .int),
  .methodLink RzW 46 yz_L_door,
  .instanceMethod yz_L_door,
  .selects RzL yz_L_door yz_L_door,
  .code yz_L_door cz_L_door 6 (some .int),
  .static yz_B_isEvent,
  .code yz_B_isEvent cz_B_isEvent 1 (some .boolean)]
theorem zw_s_12 : ∀ w ∈ zw_T_12, w ∈ lw_tbl := by rw [zw_lt]; exact List.forall_mem_cons.mpr ⟨zj_192, List.forall_mem_cons.mpr ⟨zj_193, List.forall_mem_cons.mpr ⟨zj_194, List.forall_mem_cons.mpr ⟨zj_195, List.forall_mem_cons.mpr ⟨zj_196, List.forall_mem_cons.mpr ⟨zj_197, List.forall_mem_cons.mpr ⟨zj_198, List.forall_mem_cons.mpr ⟨zj_199, List.forall_mem_cons.mpr ⟨zj_200, List.forall_mem_cons.mpr ⟨zj_201, List.forall_mem_cons.mpr ⟨zj_202, List.forall_mem_cons.mpr ⟨zj_203, List.forall_mem_cons.mpr ⟨zj_204, List.forall_mem_cons.mpr ⟨zj_205, List.forall_mem_cons.mpr ⟨zj_206, List.forall_mem_cons.mpr ⟨zj_207, fun _ h => absurd h List.not_mem_nil⟩⟩⟩⟩⟩⟩⟩⟩⟩⟩⟩⟩⟩⟩⟩⟩
def zw_T_13 : List Cond := [
  .instanceMethod yz_B_admits,
  .code yz_B_admits cz_B_admits 2 (some .boolean),
  .methodLink RzB 48 yz_B_isUnused,
  .instanceMethod yz_B_undergo,
  .code yz_B_undergo cz_B_undergo 4 (Option.none : Option Jvm.ClassFile.FieldType),
  .methodLink RzB 51 yz_B_beginOpening,
  .methodLink RzW 50 yz_L_tick,
  .instanceMethod yz_L_tick,
  .selects RzL yz_L_tick yz_L_tick,
  .code yz_L_tick cz_L_tick 4 (some .int),
  .methodLink RzW 55 yz_L_take,
  .instanceMethod yz_L_take,
  .selects RzL yz_L_take yz_L_take,
  .code yz_L_take cz_L_take 5 (some .int),
  .methodLink RzW 60 yz_L_item,
  .instanceMethod yz_L_item]
theorem zw_s_13 : ∀ w ∈ zw_T_13, w ∈ lw_tbl := by rw [zw_lt]; exact List.forall_mem_cons.mpr ⟨zj_208, List.forall_mem_cons.mpr ⟨zj_209, List.forall_mem_cons.mpr ⟨zj_210, List.forall_mem_cons.mpr ⟨zj_211, List.forall_mem_cons.mpr ⟨zj_212, List.forall_mem_cons.mpr ⟨zj_213, List.forall_mem_cons.mpr ⟨zj_214, List.forall_mem_cons.mpr ⟨zj_215, List.forall_mem_cons.mpr ⟨zj_216, List.forall_mem_cons.mpr ⟨zj_217, List.forall_mem_cons.mpr ⟨zj_218, List.forall_mem_cons.mpr ⟨zj_219, List.forall_mem_cons.mpr ⟨zj_220, List.forall_mem_cons.mpr ⟨zj_221, List.forall_mem_cons.mpr ⟨zj_222, List.forall_mem_cons.mpr ⟨zj_223, fun _ h => absurd h List.not_mem_nil⟩⟩⟩⟩⟩⟩⟩⟩⟩⟩⟩⟩⟩⟩⟩⟩
def zw_T_14 : List Cond := [
  .selects RzL yz_L_item yz_L_item,
  .code yz_L_item cz_L_item 3 (some .int),
  .methodLink RzW 64 yz_L_freed,
  .instanceMethod yz_L_freed,
  .selects RzL yz_L_freed yz_L_freed,
  .code yz_L_freed cz_L_freed 2 (some .int),
  .classLink RzW 10 RzM,
  .instantiable RzM 18,
  .methodLink RzW 12 yz_M_init,
  .instanceMethod yz_M_init,
  .code yz_M_init cz_M_init 1 (Option.none : Option Jvm.ClassFile.FieldType),
  .methodLink RzM 1 objectInit,
  .fieldLink RzM 45 "LockerRowsModel" "boxes" "I",
  .fieldLink RzM 7 "LockerRowsModel" "sizes" "[I",
  .fieldLink RzM 13 "LockerRowsModel" "doors" "[I",
  .fieldLink RzM 16 "LockerRowsModel" "since" "[J"]
theorem zw_s_14 : ∀ w ∈ zw_T_14, w ∈ lw_tbl := by rw [zw_lt]; exact List.forall_mem_cons.mpr ⟨zj_224, List.forall_mem_cons.mpr ⟨zj_225, List.forall_mem_cons.mpr ⟨zj_226, List.forall_mem_cons.mpr ⟨zj_227, List.forall_mem_cons.mpr ⟨zj_228, List.forall_mem_cons.mpr ⟨zj_229, List.forall_mem_cons.mpr ⟨zj_230, List.forall_mem_cons.mpr ⟨zj_231, List.forall_mem_cons.mpr ⟨zj_232, List.forall_mem_cons.mpr ⟨zj_233, List.forall_mem_cons.mpr ⟨zj_234, List.forall_mem_cons.mpr ⟨zj_235, List.forall_mem_cons.mpr ⟨zj_236, List.forall_mem_cons.mpr ⟨zj_237, List.forall_mem_cons.mpr ⟨zj_238, List.forall_mem_cons.mpr ⟨zj_239, fun _ h => absurd h List.not_mem_nil⟩⟩⟩⟩⟩⟩⟩⟩⟩⟩⟩⟩⟩⟩⟩⟩
def zw_T_15 : List Cond := [
  .fieldLink RzM 20 "LockerRowsModel" "told" "[Z",
  .fieldLink RzM 24 "LockerRowsModel" "items" "[I",
  .fieldLink RzM 27 "LockerRowsModel" "codes" "[I",
  .fieldLink RzM 30 "LockerRowsModel" "lies" "[J",
  .fieldLink RzM 33 "LockerRowsModel" "late" "[Z",
  .fieldLink RzM 36 "LockerRowsModel" "kept" "[J",
  .fieldLink RzM 60 "LockerRowsModel" "time" "J",
  .fieldLink RzM 71 "LockerRowsModel" "alarms" "I",
  .fieldLink RzM 104 "LockerRowsModel" "wrong" "I",
  .fieldLink RzM 93 "LockerRowsModel" "waits" "J",
  .fieldLink RzM 57 "LockerRowsModel" "taped" "I",
  .fieldLink RzM 39 "LockerRowsModel" "tape" "[I",
  .fieldLink RzM 66 "LockerRowsModel" "freed" "I",
  .fieldLink RzM 42 "LockerRowsModel" "free" "[I",
  .lays "LockerRowsModel" "LockerRowsModel" "boxes" "I",
  .laysFinal "LockerRowsModel" "LockerRowsModel" "sizes" "[I"]
theorem zw_s_15 : ∀ w ∈ zw_T_15, w ∈ lw_tbl := by rw [zw_lt]; exact List.forall_mem_cons.mpr ⟨zj_240, List.forall_mem_cons.mpr ⟨zj_241, List.forall_mem_cons.mpr ⟨zj_242, List.forall_mem_cons.mpr ⟨zj_243, List.forall_mem_cons.mpr ⟨zj_244, List.forall_mem_cons.mpr ⟨zj_245, List.forall_mem_cons.mpr ⟨zj_246, List.forall_mem_cons.mpr ⟨zj_247, List.forall_mem_cons.mpr ⟨zj_248, List.forall_mem_cons.mpr ⟨zj_249, List.forall_mem_cons.mpr ⟨zj_250, List.forall_mem_cons.mpr ⟨zj_251, List.forall_mem_cons.mpr ⟨zj_252, List.forall_mem_cons.mpr ⟨zj_253, List.forall_mem_cons.mpr ⟨zj_254, List.forall_mem_cons.mpr ⟨zj_255, fun _ h => absurd h List.not_mem_nil⟩⟩⟩⟩⟩⟩⟩⟩⟩⟩⟩⟩⟩⟩⟩⟩
def zw_T_16 : List Cond := [
  .laysFinal "LockerRowsModel" "LockerRowsModel" "doors" "[I",
  .laysFinal "LockerRowsModel" "LockerRowsModel" "since" "[J",
  .laysFinal "LockerRowsModel" "LockerRowsModel" "told" "[Z",
  .laysFinal "LockerRowsModel" "LockerRowsModel" "items" "[I",
  .laysFinal "LockerRowsModel" "LockerRowsModel" "codes" "[I",
  .laysFinal "LockerRowsModel" "LockerRowsModel" "lies" "[J",
  .laysFinal "LockerRowsModel" "LockerRowsModel" "late" "[Z",
  .laysFinal "LockerRowsModel" "LockerRowsModel" "kept" "[J",
  .lays "LockerRowsModel" "LockerRowsModel" "time" "J",
  .lays "LockerRowsModel" "LockerRowsModel" "alarms" "I",
  .lays "LockerRowsModel" "LockerRowsModel" "wrong" "I",
  .lays "LockerRowsModel" "LockerRowsModel" "waits" "J",
  .lays "LockerRowsModel" "LockerRowsModel" "taped" "I",
  .laysFinal "LockerRowsModel" "LockerRowsModel" "tape" "[I",
  .lays "LockerRowsModel" "LockerRowsModel" "freed" "I",
  .laysFinal "LockerRowsModel" "LockerRowsModel" "free" "[I"]
theorem zw_s_16 : ∀ w ∈ zw_T_16, w ∈ lw_tbl := by rw [zw_lt]; exact List.forall_mem_cons.mpr ⟨zj_256, List.forall_mem_cons.mpr ⟨zj_257, List.forall_mem_cons.mpr ⟨zj_258, List.forall_mem_cons.mpr ⟨zj_259, List.forall_mem_cons.mpr ⟨zj_260, List.forall_mem_cons.mpr ⟨zj_261, List.forall_mem_cons.mpr ⟨zj_262, List.forall_mem_cons.mpr ⟨zj_263, List.forall_mem_cons.mpr ⟨zj_264, List.forall_mem_cons.mpr ⟨zj_265, List.forall_mem_cons.mpr ⟨zj_266, List.forall_mem_cons.mpr ⟨zj_267, List.forall_mem_cons.mpr ⟨zj_268, List.forall_mem_cons.mpr ⟨zj_269, List.forall_mem_cons.mpr ⟨zj_270, List.forall_mem_cons.mpr ⟨zj_271, fun _ h => absurd h List.not_mem_nil⟩⟩⟩⟩⟩⟩⟩⟩⟩⟩⟩⟩⟩⟩⟩⟩
def zw_T_17 : List Cond := [
  .arrayClass .long,
  .arrayClass .boolean,
  .methodLink RzW 17 yz_M_box,
  .instanceMethod yz_M_box,
  .selects RzM yz_M_box yz_M_box,
  .code yz_M_box cz_M_box 2 (some .int),
  .constantLong RzM 53 5,
  .methodLink RzM 49 yz_M_within,
  .static yz_M_within,
  .code yz_M_within cz_M_within 6 (some .boolean),
  .methodLink RzW 21 yz_M_tape,
  .instanceMethod yz_M_tape,
  .selects RzM yz_M_tape yz_M_tape,
  .code yz_M_tape cz_M_tape 2 (some .int),
  .constantLong RzM 55 999999,
  .methodLink RzW 28 yz_M_reserve]
theorem zw_s_17 : ∀ w ∈ zw_T_17, w ∈ lw_tbl := by rw [zw_lt]; exact List.forall_mem_cons.mpr ⟨zj_272, List.forall_mem_cons.mpr ⟨zj_273, List.forall_mem_cons.mpr ⟨zj_274, List.forall_mem_cons.mpr ⟨zj_275, List.forall_mem_cons.mpr ⟨zj_276, List.forall_mem_cons.mpr ⟨zj_277, List.forall_mem_cons.mpr ⟨zj_278, List.forall_mem_cons.mpr ⟨zj_279, List.forall_mem_cons.mpr ⟨zj_280, List.forall_mem_cons.mpr ⟨zj_281, List.forall_mem_cons.mpr ⟨zj_282, List.forall_mem_cons.mpr ⟨zj_283, List.forall_mem_cons.mpr ⟨zj_284, List.forall_mem_cons.mpr ⟨zj_285, List.forall_mem_cons.mpr ⟨zj_286, List.forall_mem_cons.mpr ⟨zj_287, fun _ h => absurd h List.not_mem_nil⟩⟩⟩⟩⟩⟩⟩⟩⟩⟩⟩⟩⟩⟩⟩⟩
def zw_T_18 : List Cond := [
  .instanceMethod yz_M_reserve,
  .selects RzM yz_M_reserve yz_M_reserve,
  .code yz_M_reserve cz_M_reserve 7 (some .int),
  .constantLong RzM 64 2000000000,
  .methodLink RzW 33 yz_M_put,
  .instanceMethod yz_M_put,
  .selects RzM yz_M_put yz_M_put,
  .code yz_M_put cz_M_put 7 (some .int),
  .methodLink RzM 76 yz_M_isBox,
  .instanceMethod yz_M_isBox,
  .code yz_M_isBox cz_M_isBox 2 (some .boolean),
  .constantLong RzM 80 9999,
  .methodLink RzM 82 yz_M_isNoTime,
  .instanceMethod yz_M_isNoTime,
  .code yz_M_isNoTime cz_M_isNoTime 3 (some .boolean),
  .methodLink RzM 86 yz_M_pass]
theorem zw_s_18 : ∀ w ∈ zw_T_18, w ∈ lw_tbl := by rw [zw_lt]; exact List.forall_mem_cons.mpr ⟨zj_288, List.forall_mem_cons.mpr ⟨zj_289, List.forall_mem_cons.mpr ⟨zj_290, List.forall_mem_cons.mpr ⟨zj_291, List.forall_mem_cons.mpr ⟨zj_292, List.forall_mem_cons.mpr ⟨zj_293, List.forall_mem_cons.mpr ⟨zj_294, List.forall_mem_cons.mpr ⟨zj_295, List.forall_mem_cons.mpr ⟨zj_296, List.forall_mem_cons.mpr ⟨zj_297, List.forall_mem_cons.mpr ⟨zj_298, List.forall_mem_cons.mpr ⟨zj_299, List.forall_mem_cons.mpr ⟨zj_300, List.forall_mem_cons.mpr ⟨zj_301, List.forall_mem_cons.mpr ⟨zj_302, List.forall_mem_cons.mpr ⟨zj_303, fun _ h => absurd h List.not_mem_nil⟩⟩⟩⟩⟩⟩⟩⟩⟩⟩⟩⟩⟩⟩⟩⟩
def zw_T_19 : List Cond := [
  .instanceMethod yz_M_pass,
  .code yz_M_pass cz_M_pass 5 (Option.none : Option Jvm.ClassFile.FieldType),
  .constantLong RzM 69 120,
  .constantLong RzM 74 604800,
  .methodLink RzW 37 yz_M_close,
  .instanceMethod yz_M_close,
  .selects RzM yz_M_close yz_M_close,
  .code yz_M_close cz_M_close 7 (some .int),
  .methodLink RzM 90 yz_M_isCode,
  .instanceMethod yz_M_isCode,
  .code yz_M_isCode cz_M_isCode 3 (some .boolean),
  .methodLink RzW 41 yz_M_type,
  .instanceMethod yz_M_type,
  .selects RzM yz_M_type yz_M_type,
  .code yz_M_type cz_M_type 5 (some .int),
  .methodLink RzM 96 yz_M_out]
theorem zw_s_19 : ∀ w ∈ zw_T_19, w ∈ lw_tbl := by rw [zw_lt]; exact List.forall_mem_cons.mpr ⟨zj_304, List.forall_mem_cons.mpr ⟨zj_305, List.forall_mem_cons.mpr ⟨zj_306, List.forall_mem_cons.mpr ⟨zj_307, List.forall_mem_cons.mpr ⟨zj_308, List.forall_mem_cons.mpr ⟨zj_309, List.forall_mem_cons.mpr ⟨zj_310, List.forall_mem_cons.mpr ⟨zj_311, List.forall_mem_cons.mpr ⟨zj_312, List.forall_mem_cons.mpr ⟨zj_313, List.forall_mem_cons.mpr ⟨zj_314, List.forall_mem_cons.mpr ⟨zj_315, List.forall_mem_cons.mpr ⟨zj_316, List.forall_mem_cons.mpr ⟨zj_317, List.forall_mem_cons.mpr ⟨zj_318, List.forall_mem_cons.mpr ⟨zj_319, fun _ h => absurd h List.not_mem_nil⟩⟩⟩⟩⟩⟩⟩⟩⟩⟩⟩⟩⟩⟩⟩⟩
def zw_T_20 : List Cond := [
  .instanceMethod yz_M_out,
  .code yz_M_out cz_M_out 3 (some .int),
  .methodLink RzM 100 yz_M_open,
  .instanceMethod yz_M_open,
  .code yz_M_open cz_M_open 3 (Option.none : Option Jvm.ClassFile.FieldType),
  .constantLong RzM 107 300,
  .methodLink RzW 45 yz_M_code,
  .instanceMethod yz_M_code,
  .selects RzM yz_M_code yz_M_code,
  .code yz_M_code cz_M_code 3 (some .int),
  .methodLink RzW 49 yz_M_door,
  .instanceMethod yz_M_door,
  .selects RzM yz_M_door yz_M_door,
  .code yz_M_door cz_M_door 7 (some .int),
  .constantLong RzM 109 4,
  .methodLink RzW 54 yz_M_tick]
theorem zw_s_20 : ∀ w ∈ zw_T_20, w ∈ lw_tbl := by rw [zw_lt]; exact List.forall_mem_cons.mpr ⟨zj_320, List.forall_mem_cons.mpr ⟨zj_321, List.forall_mem_cons.mpr ⟨zj_322, List.forall_mem_cons.mpr ⟨zj_323, List.forall_mem_cons.mpr ⟨zj_324, List.forall_mem_cons.mpr ⟨zj_325, List.forall_mem_cons.mpr ⟨zj_326, List.forall_mem_cons.mpr ⟨zj_327, List.forall_mem_cons.mpr ⟨zj_328, List.forall_mem_cons.mpr ⟨zj_329, List.forall_mem_cons.mpr ⟨zj_330, List.forall_mem_cons.mpr ⟨zj_331, List.forall_mem_cons.mpr ⟨zj_332, List.forall_mem_cons.mpr ⟨zj_333, List.forall_mem_cons.mpr ⟨zj_334, List.forall_mem_cons.mpr ⟨zj_335, fun _ h => absurd h List.not_mem_nil⟩⟩⟩⟩⟩⟩⟩⟩⟩⟩⟩⟩⟩⟩⟩⟩
def zw_T_21 : List Cond := [
  .instanceMethod yz_M_tick,
  .selects RzM yz_M_tick yz_M_tick,
  .code yz_M_tick cz_M_tick 4 (some .int),
  .methodLink RzW 59 yz_M_take,
  .instanceMethod yz_M_take,
  .selects RzM yz_M_take yz_M_take,
  .code yz_M_take cz_M_take 3 (some .int),
  .constantLong RzM 111 9,
  .methodLink RzW 63 yz_M_item,
  .instanceMethod yz_M_item,
  .selects RzM yz_M_item yz_M_item,
  .code yz_M_item cz_M_item 2 (some .int),
  .methodLink RzW 67 yz_M_freed,
  .instanceMethod yz_M_freed,
  .selects RzM yz_M_freed yz_M_freed,
  .code yz_M_freed cz_M_freed 2 (some .int)]
theorem zw_s_21 : ∀ w ∈ zw_T_21, w ∈ lw_tbl := by rw [zw_lt]; exact List.forall_mem_cons.mpr ⟨zj_336, List.forall_mem_cons.mpr ⟨zj_337, List.forall_mem_cons.mpr ⟨zj_338, List.forall_mem_cons.mpr ⟨zj_339, List.forall_mem_cons.mpr ⟨zj_340, List.forall_mem_cons.mpr ⟨zj_341, List.forall_mem_cons.mpr ⟨zj_342, List.forall_mem_cons.mpr ⟨zj_343, List.forall_mem_cons.mpr ⟨zj_344, List.forall_mem_cons.mpr ⟨zj_345, List.forall_mem_cons.mpr ⟨zj_346, List.forall_mem_cons.mpr ⟨zj_347, List.forall_mem_cons.mpr ⟨zj_348, List.forall_mem_cons.mpr ⟨zj_349, List.forall_mem_cons.mpr ⟨zj_350, List.forall_mem_cons.mpr ⟨zj_351, fun _ h => absurd h List.not_mem_nil⟩⟩⟩⟩⟩⟩⟩⟩⟩⟩⟩⟩⟩⟩⟩⟩
def zw_T_22 : List Cond := [
  .constantLong RzW 22 4294967295]
theorem zw_s_22 : ∀ w ∈ zw_T_22, w ∈ lw_tbl := by rw [zw_lt]; exact List.forall_mem_cons.mpr ⟨zj_352, fun _ h => absurd h List.not_mem_nil⟩
def zw_T : List Cond := zw_T_0 ++ (zw_T_1 ++ (zw_T_2 ++ (zw_T_3 ++ (zw_T_4 ++ (zw_T_5 ++ (zw_T_6 ++ (zw_T_7 ++ (zw_T_8 ++ (zw_T_9 ++ (zw_T_10 ++ (zw_T_11 ++ (zw_T_12 ++ (zw_T_13 ++ (zw_T_14 ++ (zw_T_15 ++ (zw_T_16 ++ (zw_T_17 ++ (zw_T_18 ++ (zw_T_19 ++ (zw_T_20 ++ (zw_T_21 ++ (zw_T_22))))))))))))))))))))))
theorem zw_sub : ∀ w ∈ zw_T, w ∈ lw_tbl := List.forall_mem_append.mpr ⟨zw_s_0, List.forall_mem_append.mpr ⟨zw_s_1, List.forall_mem_append.mpr ⟨zw_s_2, List.forall_mem_append.mpr ⟨zw_s_3, List.forall_mem_append.mpr ⟨zw_s_4, List.forall_mem_append.mpr ⟨zw_s_5, List.forall_mem_append.mpr ⟨zw_s_6, List.forall_mem_append.mpr ⟨zw_s_7, List.forall_mem_append.mpr ⟨zw_s_8, List.forall_mem_append.mpr ⟨zw_s_9, List.forall_mem_append.mpr ⟨zw_s_10, List.forall_mem_append.mpr ⟨zw_s_11, List.forall_mem_append.mpr ⟨zw_s_12, List.forall_mem_append.mpr ⟨zw_s_13, List.forall_mem_append.mpr ⟨zw_s_14, List.forall_mem_append.mpr ⟨zw_s_15, List.forall_mem_append.mpr ⟨zw_s_16, List.forall_mem_append.mpr ⟨zw_s_17, List.forall_mem_append.mpr ⟨zw_s_18, List.forall_mem_append.mpr ⟨zw_s_19, List.forall_mem_append.mpr ⟨zw_s_20, List.forall_mem_append.mpr ⟨zw_s_21, zw_s_22⟩⟩⟩⟩⟩⟩⟩⟩⟩⟩⟩⟩⟩⟩⟩⟩⟩⟩⟩⟩⟩⟩
def zw_ns : List Cond := [
  .arrayOver (.object "LockerRows$Box"),
  .methodLinkNest RzL 21 yz_T_init "LockerRows",
  .methodLinkNest RzL 50 yz_B_init "LockerRows",
  .fieldLinkNest RzL 151 "LockerRows$Box" "size" "I" "LockerRows",
  .fieldLinkNest RzL 87 "LockerRows$Box" "door" "I" "LockerRows",
  .fieldLinkNest RzL 137 "LockerRows$Box" "item" "I" "LockerRows",
  .fieldLinkNest RzL 122 "LockerRows$Box" "code" "I" "LockerRows",
  .fieldLinkNest RzL 140 "LockerRows$Box" "late" "Z" "LockerRows",
  .fieldLinkNest RzL 73 "LockerRows$Box" "keptUntil" "J" "LockerRows",
  .methodLinkNest RzL 56 yz_T_append "LockerRows",
  .methodLinkNest RzL 59 yz_T_length "LockerRows",
  .methodLinkNest RzL 148 yz_B_isUnused "LockerRows",
  .methodLinkNest RzL 162 yz_B_freeIfDue "LockerRows",
  .methodLinkNest RzL 168 yz_B_tellAlarms "LockerRows",
  .methodLinkNest RzL 90 yz_B_isEmpty "LockerRows",
  .methodLinkNest RzL 97 yz_B_receive "LockerRows",
  .methodLinkNest RzL 100 yz_B_wantsCode "LockerRows",
  .methodLinkNest RzL 154 yz_T_at "LockerRows",
  .methodLinkNest RzL 145 yz_B_lies "LockerRows",
  .methodLinkNest RzL 157 yz_T_dropFirst "LockerRows",
  .methodLinkNest RzL 106 yz_B_layDown "LockerRows",
  .methodLinkNest RzL 116 yz_B_clear "LockerRows",
  .methodLinkNest RzL 119 yz_B_beginOpening "LockerRows",
  .methodLinkNest RzL 125 yz_B_isEvent "LockerRows",
  .methodLinkNest RzL 128 yz_B_admits "LockerRows",
  .methodLinkNest RzL 131 yz_B_undergo "LockerRows",
  .methodLinkNest RzL 134 yz_B_isOpenOrForced "LockerRows"]
theorem zi_0 : (.selects RzT yz_T_append yz_T_append : Cond) ∈ zw_T := List.mem_of_getElem? (i := 0) rfl
theorem zi_1 : (.selects RzT yz_T_length yz_T_length : Cond) ∈ zw_T := List.mem_of_getElem? (i := 1) rfl
theorem zi_2 : (.selects RzL yz_L_smallestUnused yz_L_smallestUnused : Cond) ∈ zw_T := List.mem_of_getElem? (i := 2) rfl
theorem zi_3 : (.selects RzL yz_L_boxAt yz_L_boxAt : Cond) ∈ zw_T := List.mem_of_getElem? (i := 3) rfl
theorem zi_4 : (.selects RzB yz_B_isUnused yz_B_isUnused : Cond) ∈ zw_T := List.mem_of_getElem? (i := 4) rfl
theorem zi_5 : (.selects RzB yz_B_isEmpty yz_B_isEmpty : Cond) ∈ zw_T := List.mem_of_getElem? (i := 5) rfl
theorem zi_6 : (.selects RzL yz_L_isTime yz_L_isTime : Cond) ∈ zw_T := List.mem_of_getElem? (i := 6) rfl
theorem zi_7 : (.selects RzL yz_L_passTo yz_L_passTo : Cond) ∈ zw_T := List.mem_of_getElem? (i := 7) rfl
theorem zi_8 : (.selects RzB yz_B_freeIfDue yz_B_freeIfDue : Cond) ∈ zw_T := List.mem_of_getElem? (i := 8) rfl
theorem zi_9 : (.selects RzL yz_L_noteFreed yz_L_noteFreed : Cond) ∈ zw_T := List.mem_of_getElem? (i := 9) rfl
theorem zi_10 : (.selects RzB yz_B_tellAlarms yz_B_tellAlarms : Cond) ∈ zw_T := List.mem_of_getElem? (i := 10) rfl
theorem zi_11 : (.selects RzB yz_B_isOpenOrForced yz_B_isOpenOrForced : Cond) ∈ zw_T := List.mem_of_getElem? (i := 11) rfl
theorem zi_12 : (.selects RzB yz_B_lies yz_B_lies : Cond) ∈ zw_T := List.mem_of_getElem? (i := 12) rfl
theorem zi_13 : (.selects RzL yz_L_boxOfItem yz_L_boxOfItem : Cond) ∈ zw_T := List.mem_of_getElem? (i := 13) rfl
theorem zi_14 : (.selects RzB yz_B_receive yz_B_receive : Cond) ∈ zw_T := List.mem_of_getElem? (i := 14) rfl
theorem zi_15 : (.selects RzB yz_B_wantsCode yz_B_wantsCode : Cond) ∈ zw_T := List.mem_of_getElem? (i := 15) rfl
theorem zi_16 : (.selects RzL yz_L_wantedCode yz_L_wantedCode : Cond) ∈ zw_T := List.mem_of_getElem? (i := 16) rfl
theorem zi_17 : (.selects RzT yz_T_at yz_T_at : Cond) ∈ zw_T := List.mem_of_getElem? (i := 17) rfl
theorem zi_18 : (.selects RzL yz_L_boxNumberOfCode yz_L_boxNumberOfCode : Cond) ∈ zw_T := List.mem_of_getElem? (i := 18) rfl
theorem zi_19 : (.selects RzT yz_T_dropFirst yz_T_dropFirst : Cond) ∈ zw_T := List.mem_of_getElem? (i := 19) rfl
theorem zi_20 : (.selects RzB yz_B_layDown yz_B_layDown : Cond) ∈ zw_T := List.mem_of_getElem? (i := 20) rfl
theorem zi_21 : (.selects RzL yz_L_countWrongTry yz_L_countWrongTry : Cond) ∈ zw_T := List.mem_of_getElem? (i := 21) rfl
theorem zi_22 : (.selects RzB yz_B_clear yz_B_clear : Cond) ∈ zw_T := List.mem_of_getElem? (i := 22) rfl
theorem zi_23 : (.selects RzB yz_B_beginOpening yz_B_beginOpening : Cond) ∈ zw_T := List.mem_of_getElem? (i := 23) rfl
theorem zi_24 : (.selects RzB yz_B_admits yz_B_admits : Cond) ∈ zw_T := List.mem_of_getElem? (i := 24) rfl
theorem zi_25 : (.selects RzB yz_B_undergo yz_B_undergo : Cond) ∈ zw_T := List.mem_of_getElem? (i := 25) rfl
theorem zi_26 : (.selects RzM yz_M_isBox yz_M_isBox : Cond) ∈ zw_T := List.mem_of_getElem? (i := 26) rfl
theorem zi_27 : (.selects RzM yz_M_isNoTime yz_M_isNoTime : Cond) ∈ zw_T := List.mem_of_getElem? (i := 27) rfl
theorem zi_28 : (.selects RzM yz_M_pass yz_M_pass : Cond) ∈ zw_T := List.mem_of_getElem? (i := 28) rfl
theorem zi_29 : (.selects RzM yz_M_isCode yz_M_isCode : Cond) ∈ zw_T := List.mem_of_getElem? (i := 29) rfl
theorem zi_30 : (.selects RzM yz_M_out yz_M_out : Cond) ∈ zw_T := List.mem_of_getElem? (i := 30) rfl
theorem zi_31 : (.selects RzM yz_M_open yz_M_open : Cond) ∈ zw_T := List.mem_of_getElem? (i := 31) rfl
theorem zi_32 : (.initialized RzW : Cond) ∈ zw_T := List.mem_of_getElem? (i := 32) rfl
theorem zi_33 : (.initialized RzL : Cond) ∈ zw_T := List.mem_of_getElem? (i := 33) rfl
theorem zi_34 : (.initialized RzT : Cond) ∈ zw_T := List.mem_of_getElem? (i := 34) rfl
theorem zi_35 : (.initialized RzM : Cond) ∈ zw_T := List.mem_of_getElem? (i := 35) rfl
theorem zi_36 : (.initialized RzB : Cond) ∈ zw_T := List.mem_of_getElem? (i := 36) rfl
theorem zi_37 : (.initialized "java/lang/System" : Cond) ∈ zw_T := List.mem_of_getElem? (i := 37) rfl
theorem zi_38 : (.classLink RzW 7 RzL : Cond) ∈ zw_T := List.mem_of_getElem? (i := 38) rfl
theorem zi_39 : (.instantiable RzL 9 : Cond) ∈ zw_T := List.mem_of_getElem? (i := 39) rfl
theorem zi_40 : (.methodLink RzW 9 yz_L_init : Cond) ∈ zw_T := List.mem_of_getElem? (i := 40) rfl
theorem zi_41 : (.instanceMethod yz_L_init : Cond) ∈ zw_T := List.mem_of_getElem? (i := 41) rfl
theorem zi_42 : (.code yz_L_init cz_L_init 1 (Option.none : Option Jvm.ClassFile.FieldType) : Cond) ∈ zw_T := List.mem_of_getElem? (i := 42) rfl
theorem zi_43 : (.methodLink RzL 1 objectInit : Cond) ∈ zw_T := List.mem_of_getElem? (i := 43) rfl
theorem zi_44 : (.instanceMethod objectInit : Cond) ∈ zw_T := List.mem_of_getElem? (i := 44) rfl
theorem zi_45 : (.code objectInit ⟨#[0xb1]⟩ 1 none : Cond) ∈ zw_T := List.mem_of_getElem? (i := 45) rfl
theorem zi_46 : (.classLink RzL 9 RzB : Cond) ∈ zw_T := List.mem_of_getElem? (i := 46) rfl
theorem zi_47 : (.classLink RzL 19 RzT : Cond) ∈ zw_T := List.mem_of_getElem? (i := 47) rfl
theorem zi_48 : (.instantiable RzT 2 : Cond) ∈ zw_T := List.mem_of_getElem? (i := 48) rfl
theorem zi_49 : (.instanceMethod yz_T_init : Cond) ∈ zw_T := List.mem_of_getElem? (i := 49) rfl
theorem zi_50 : (.code yz_T_init cz_T_init 1 (Option.none : Option Jvm.ClassFile.FieldType) : Cond) ∈ zw_T := List.mem_of_getElem? (i := 50) rfl
theorem zi_51 : (.methodLink RzT 3 objectInit : Cond) ∈ zw_T := List.mem_of_getElem? (i := 51) rfl
theorem zi_52 : (.fieldLink RzT 11 "LockerRows$Tape" "row" "[I" : Cond) ∈ zw_T := List.mem_of_getElem? (i := 52) rfl
theorem zi_53 : (.fieldLink RzT 15 "LockerRows$Tape" "count" "I" : Cond) ∈ zw_T := List.mem_of_getElem? (i := 53) rfl
theorem zi_54 : (.laysFinal "LockerRows$Tape" "LockerRows$Tape" "row" "[I" : Cond) ∈ zw_T := List.mem_of_getElem? (i := 54) rfl
theorem zi_55 : (.lays "LockerRows$Tape" "LockerRows$Tape" "count" "I" : Cond) ∈ zw_T := List.mem_of_getElem? (i := 55) rfl
theorem zi_56 : (.arrayClass .int : Cond) ∈ zw_T := List.mem_of_getElem? (i := 56) rfl
theorem zi_57 : (.fieldLink RzL 11 "LockerRows" "boxes" "[LLockerRows$Box;" : Cond) ∈ zw_T := List.mem_of_getElem? (i := 57) rfl
theorem zi_58 : (.fieldLink RzL 15 "LockerRows" "boxCount" "I" : Cond) ∈ zw_T := List.mem_of_getElem? (i := 58) rfl
theorem zi_59 : (.fieldLink RzL 22 "LockerRows" "numbers" "LLockerRows$Tape;" : Cond) ∈ zw_T := List.mem_of_getElem? (i := 59) rfl
theorem zi_60 : (.fieldLink RzL 26 "LockerRows" "freedBoxes" "[I" : Cond) ∈ zw_T := List.mem_of_getElem? (i := 60) rfl
theorem zi_61 : (.fieldLink RzL 30 "LockerRows" "freedCount" "I" : Cond) ∈ zw_T := List.mem_of_getElem? (i := 61) rfl
theorem zi_62 : (.fieldLink RzL 33 "LockerRows" "time" "J" : Cond) ∈ zw_T := List.mem_of_getElem? (i := 62) rfl
theorem zi_63 : (.fieldLink RzL 37 "LockerRows" "alarms" "I" : Cond) ∈ zw_T := List.mem_of_getElem? (i := 63) rfl
theorem zi_64 : (.fieldLink RzL 40 "LockerRows" "wrongTries" "I" : Cond) ∈ zw_T := List.mem_of_getElem? (i := 64) rfl
theorem zi_65 : (.fieldLink RzL 43 "LockerRows" "keypadWaitsUntil" "J" : Cond) ∈ zw_T := List.mem_of_getElem? (i := 65) rfl
theorem zi_66 : (.laysFinal "LockerRows" "LockerRows" "boxes" "[LLockerRows$Box;" : Cond) ∈ zw_T := List.mem_of_getElem? (i := 66) rfl
theorem zi_67 : (.lays "LockerRows" "LockerRows" "boxCount" "I" : Cond) ∈ zw_T := List.mem_of_getElem? (i := 67) rfl
theorem zi_68 : (.laysFinal "LockerRows" "LockerRows" "numbers" "LLockerRows$Tape;" : Cond) ∈ zw_T := List.mem_of_getElem? (i := 68) rfl
theorem zi_69 : (.laysFinal "LockerRows" "LockerRows" "freedBoxes" "[I" : Cond) ∈ zw_T := List.mem_of_getElem? (i := 69) rfl
theorem zi_70 : (.lays "LockerRows" "LockerRows" "freedCount" "I" : Cond) ∈ zw_T := List.mem_of_getElem? (i := 70) rfl
theorem zi_71 : (.lays "LockerRows" "LockerRows" "time" "J" : Cond) ∈ zw_T := List.mem_of_getElem? (i := 71) rfl
theorem zi_72 : (.lays "LockerRows" "LockerRows" "alarms" "I" : Cond) ∈ zw_T := List.mem_of_getElem? (i := 72) rfl
theorem zi_73 : (.lays "LockerRows" "LockerRows" "wrongTries" "I" : Cond) ∈ zw_T := List.mem_of_getElem? (i := 73) rfl
theorem zi_74 : (.lays "LockerRows" "LockerRows" "keypadWaitsUntil" "J" : Cond) ∈ zw_T := List.mem_of_getElem? (i := 74) rfl
theorem zi_75 : (.methodLink RzW 13 yz_L_box : Cond) ∈ zw_T := List.mem_of_getElem? (i := 75) rfl
theorem zi_76 : (.instanceMethod yz_L_box : Cond) ∈ zw_T := List.mem_of_getElem? (i := 76) rfl
theorem zi_77 : (.selects RzL yz_L_box yz_L_box : Cond) ∈ zw_T := List.mem_of_getElem? (i := 77) rfl
theorem zi_78 : (.code yz_L_box cz_L_box 2 (some .int) : Cond) ∈ zw_T := List.mem_of_getElem? (i := 78) rfl
theorem zi_79 : (.methodLink RzL 46 yz_L_isSize : Cond) ∈ zw_T := List.mem_of_getElem? (i := 79) rfl
theorem zi_80 : (.static yz_L_isSize : Cond) ∈ zw_T := List.mem_of_getElem? (i := 80) rfl
theorem zi_81 : (.code yz_L_isSize cz_L_isSize 1 (some .boolean) : Cond) ∈ zw_T := List.mem_of_getElem? (i := 81) rfl
theorem zi_82 : (.instantiable RzB 9 : Cond) ∈ zw_T := List.mem_of_getElem? (i := 82) rfl
theorem zi_83 : (.instanceMethod yz_B_init : Cond) ∈ zw_T := List.mem_of_getElem? (i := 83) rfl
theorem zi_84 : (.code yz_B_init cz_B_init 2 (Option.none : Option Jvm.ClassFile.FieldType) : Cond) ∈ zw_T := List.mem_of_getElem? (i := 84) rfl
theorem zi_85 : (.methodLink RzB 3 objectInit : Cond) ∈ zw_T := List.mem_of_getElem? (i := 85) rfl
theorem zi_86 : (.fieldLink RzB 38 "LockerRows$Box" "size" "I" : Cond) ∈ zw_T := List.mem_of_getElem? (i := 86) rfl
theorem zi_87 : (.fieldLink RzB 9 "LockerRows$Box" "door" "I" : Cond) ∈ zw_T := List.mem_of_getElem? (i := 87) rfl
theorem zi_88 : (.fieldLink RzB 15 "LockerRows$Box" "openSince" "J" : Cond) ∈ zw_T := List.mem_of_getElem? (i := 88) rfl
theorem zi_89 : (.fieldLink RzB 19 "LockerRows$Box" "openingTold" "Z" : Cond) ∈ zw_T := List.mem_of_getElem? (i := 89) rfl
theorem zi_90 : (.fieldLink RzB 23 "LockerRows$Box" "item" "I" : Cond) ∈ zw_T := List.mem_of_getElem? (i := 90) rfl
theorem zi_91 : (.fieldLink RzB 26 "LockerRows$Box" "code" "I" : Cond) ∈ zw_T := List.mem_of_getElem? (i := 91) rfl
theorem zi_92 : (.fieldLink RzB 29 "LockerRows$Box" "liesSince" "J" : Cond) ∈ zw_T := List.mem_of_getElem? (i := 92) rfl
theorem zi_93 : (.fieldLink RzB 32 "LockerRows$Box" "late" "Z" : Cond) ∈ zw_T := List.mem_of_getElem? (i := 93) rfl
theorem zi_94 : (.fieldLink RzB 35 "LockerRows$Box" "keptUntil" "J" : Cond) ∈ zw_T := List.mem_of_getElem? (i := 94) rfl
theorem zi_95 : (.laysFinal "LockerRows$Box" "LockerRows$Box" "size" "I" : Cond) ∈ zw_T := List.mem_of_getElem? (i := 95) rfl
theorem zi_96 : (.lays "LockerRows$Box" "LockerRows$Box" "door" "I" : Cond) ∈ zw_T := List.mem_of_getElem? (i := 96) rfl
theorem zi_97 : (.lays "LockerRows$Box" "LockerRows$Box" "openSince" "J" : Cond) ∈ zw_T := List.mem_of_getElem? (i := 97) rfl
theorem zi_98 : (.lays "LockerRows$Box" "LockerRows$Box" "openingTold" "Z" : Cond) ∈ zw_T := List.mem_of_getElem? (i := 98) rfl
theorem zi_99 : (.lays "LockerRows$Box" "LockerRows$Box" "item" "I" : Cond) ∈ zw_T := List.mem_of_getElem? (i := 99) rfl
theorem zi_100 : (.lays "LockerRows$Box" "LockerRows$Box" "code" "I" : Cond) ∈ zw_T := List.mem_of_getElem? (i := 100) rfl
theorem zi_101 : (.lays "LockerRows$Box" "LockerRows$Box" "liesSince" "J" : Cond) ∈ zw_T := List.mem_of_getElem? (i := 101) rfl
theorem zi_102 : (.lays "LockerRows$Box" "LockerRows$Box" "late" "Z" : Cond) ∈ zw_T := List.mem_of_getElem? (i := 102) rfl
theorem zi_103 : (.lays "LockerRows$Box" "LockerRows$Box" "keptUntil" "J" : Cond) ∈ zw_T := List.mem_of_getElem? (i := 103) rfl
theorem zi_104 : (.methodLink RzW 18 yz_L_tape : Cond) ∈ zw_T := List.mem_of_getElem? (i := 104) rfl
theorem zi_105 : (.instanceMethod yz_L_tape : Cond) ∈ zw_T := List.mem_of_getElem? (i := 105) rfl
theorem zi_106 : (.selects RzL yz_L_tape yz_L_tape : Cond) ∈ zw_T := List.mem_of_getElem? (i := 106) rfl
theorem zi_107 : (.code yz_L_tape cz_L_tape 2 (some .int) : Cond) ∈ zw_T := List.mem_of_getElem? (i := 107) rfl
theorem zi_108 : (.methodLink RzL 53 yz_L_isCode : Cond) ∈ zw_T := List.mem_of_getElem? (i := 108) rfl
theorem zi_109 : (.static yz_L_isCode : Cond) ∈ zw_T := List.mem_of_getElem? (i := 109) rfl
theorem zi_110 : (.code yz_L_isCode cz_L_isCode 1 (some .boolean) : Cond) ∈ zw_T := List.mem_of_getElem? (i := 110) rfl
theorem zi_111 : (.constant RzL 144 999999 : Cond) ∈ zw_T := List.mem_of_getElem? (i := 111) rfl
theorem zi_112 : (.instanceMethod yz_T_append : Cond) ∈ zw_T := List.mem_of_getElem? (i := 112) rfl
theorem zi_113 : (.code yz_T_append cz_T_append 2 (some .boolean) : Cond) ∈ zw_T := List.mem_of_getElem? (i := 113) rfl
theorem zi_114 : (.instanceMethod yz_T_length : Cond) ∈ zw_T := List.mem_of_getElem? (i := 114) rfl
theorem zi_115 : (.code yz_T_length cz_T_length 1 (some .int) : Cond) ∈ zw_T := List.mem_of_getElem? (i := 115) rfl
theorem zi_116 : (.methodLink RzW 24 yz_L_reserve : Cond) ∈ zw_T := List.mem_of_getElem? (i := 116) rfl
theorem zi_117 : (.instanceMethod yz_L_reserve : Cond) ∈ zw_T := List.mem_of_getElem? (i := 117) rfl
theorem zi_118 : (.selects RzL yz_L_reserve yz_L_reserve : Cond) ∈ zw_T := List.mem_of_getElem? (i := 118) rfl
theorem zi_119 : (.code yz_L_reserve cz_L_reserve 6 (some .int) : Cond) ∈ zw_T := List.mem_of_getElem? (i := 119) rfl
theorem zi_120 : (.constantLong RzL 63 2000000000 : Cond) ∈ zw_T := List.mem_of_getElem? (i := 120) rfl
theorem zi_121 : (.methodLink RzL 65 yz_L_smallestUnused : Cond) ∈ zw_T := List.mem_of_getElem? (i := 121) rfl
theorem zi_122 : (.instanceMethod yz_L_smallestUnused : Cond) ∈ zw_T := List.mem_of_getElem? (i := 122) rfl
theorem zi_123 : (.code yz_L_smallestUnused cz_L_smallestUnused 6 (some .int) : Cond) ∈ zw_T := List.mem_of_getElem? (i := 123) rfl
theorem zi_124 : (.methodLink RzL 69 yz_L_boxAt : Cond) ∈ zw_T := List.mem_of_getElem? (i := 124) rfl
theorem zi_125 : (.instanceMethod yz_L_boxAt : Cond) ∈ zw_T := List.mem_of_getElem? (i := 125) rfl
theorem zi_126 : (.code yz_L_boxAt cz_L_boxAt 2 (some (.object "LockerRows$Box")) : Cond) ∈ zw_T := List.mem_of_getElem? (i := 126) rfl
theorem zi_127 : (.instanceMethod yz_B_isUnused : Cond) ∈ zw_T := List.mem_of_getElem? (i := 127) rfl
theorem zi_128 : (.code yz_B_isUnused cz_B_isUnused 1 (some .boolean) : Cond) ∈ zw_T := List.mem_of_getElem? (i := 128) rfl
theorem zi_129 : (.methodLink RzB 41 yz_B_isEmpty : Cond) ∈ zw_T := List.mem_of_getElem? (i := 129) rfl
theorem zi_130 : (.instanceMethod yz_B_isEmpty : Cond) ∈ zw_T := List.mem_of_getElem? (i := 130) rfl
theorem zi_131 : (.code yz_B_isEmpty cz_B_isEmpty 1 (some .boolean) : Cond) ∈ zw_T := List.mem_of_getElem? (i := 131) rfl
theorem zi_132 : (.methodLink RzW 29 yz_L_put : Cond) ∈ zw_T := List.mem_of_getElem? (i := 132) rfl
theorem zi_133 : (.instanceMethod yz_L_put : Cond) ∈ zw_T := List.mem_of_getElem? (i := 133) rfl
theorem zi_134 : (.selects RzL yz_L_put yz_L_put : Cond) ∈ zw_T := List.mem_of_getElem? (i := 134) rfl
theorem zi_135 : (.code yz_L_put cz_L_put 6 (some .int) : Cond) ∈ zw_T := List.mem_of_getElem? (i := 135) rfl
theorem zi_136 : (.methodLink RzL 76 yz_L_isItem : Cond) ∈ zw_T := List.mem_of_getElem? (i := 136) rfl
theorem zi_137 : (.static yz_L_isItem : Cond) ∈ zw_T := List.mem_of_getElem? (i := 137) rfl
theorem zi_138 : (.code yz_L_isItem cz_L_isItem 1 (some .boolean) : Cond) ∈ zw_T := List.mem_of_getElem? (i := 138) rfl
theorem zi_139 : (.methodLink RzL 79 yz_L_isTime : Cond) ∈ zw_T := List.mem_of_getElem? (i := 139) rfl
theorem zi_140 : (.instanceMethod yz_L_isTime : Cond) ∈ zw_T := List.mem_of_getElem? (i := 140) rfl
theorem zi_141 : (.code yz_L_isTime cz_L_isTime 3 (some .boolean) : Cond) ∈ zw_T := List.mem_of_getElem? (i := 141) rfl
theorem zi_142 : (.methodLink RzL 83 yz_L_passTo : Cond) ∈ zw_T := List.mem_of_getElem? (i := 142) rfl
theorem zi_143 : (.instanceMethod yz_L_passTo : Cond) ∈ zw_T := List.mem_of_getElem? (i := 143) rfl
theorem zi_144 : (.code yz_L_passTo cz_L_passTo 5 (Option.none : Option Jvm.ClassFile.FieldType) : Cond) ∈ zw_T := List.mem_of_getElem? (i := 144) rfl
theorem zi_145 : (.instanceMethod yz_B_freeIfDue : Cond) ∈ zw_T := List.mem_of_getElem? (i := 145) rfl
theorem zi_146 : (.code yz_B_freeIfDue cz_B_freeIfDue 3 (some .boolean) : Cond) ∈ zw_T := List.mem_of_getElem? (i := 146) rfl
theorem zi_147 : (.methodLink RzL 165 yz_L_noteFreed : Cond) ∈ zw_T := List.mem_of_getElem? (i := 147) rfl
theorem zi_148 : (.instanceMethod yz_L_noteFreed : Cond) ∈ zw_T := List.mem_of_getElem? (i := 148) rfl
theorem zi_149 : (.code yz_L_noteFreed cz_L_noteFreed 2 (Option.none : Option Jvm.ClassFile.FieldType) : Cond) ∈ zw_T := List.mem_of_getElem? (i := 149) rfl
theorem zi_150 : (.instanceMethod yz_B_tellAlarms : Cond) ∈ zw_T := List.mem_of_getElem? (i := 150) rfl
theorem zi_151 : (.code yz_B_tellAlarms cz_B_tellAlarms 4 (some .int) : Cond) ∈ zw_T := List.mem_of_getElem? (i := 151) rfl
theorem zi_152 : (.methodLink RzB 55 yz_B_isOpenOrForced : Cond) ∈ zw_T := List.mem_of_getElem? (i := 152) rfl
theorem zi_153 : (.instanceMethod yz_B_isOpenOrForced : Cond) ∈ zw_T := List.mem_of_getElem? (i := 153) rfl
theorem zi_154 : (.code yz_B_isOpenOrForced cz_B_isOpenOrForced 1 (some .boolean) : Cond) ∈ zw_T := List.mem_of_getElem? (i := 154) rfl
theorem zi_155 : (.constantLong RzB 58 120 : Cond) ∈ zw_T := List.mem_of_getElem? (i := 155) rfl
theorem zi_156 : (.methodLink RzB 45 yz_B_lies : Cond) ∈ zw_T := List.mem_of_getElem? (i := 156) rfl
theorem zi_157 : (.instanceMethod yz_B_lies : Cond) ∈ zw_T := List.mem_of_getElem? (i := 157) rfl
theorem zi_158 : (.code yz_B_lies cz_B_lies 1 (some .boolean) : Cond) ∈ zw_T := List.mem_of_getElem? (i := 158) rfl
theorem zi_159 : (.constantLong RzB 60 604800 : Cond) ∈ zw_T := List.mem_of_getElem? (i := 159) rfl
theorem zi_160 : (.methodLink RzL 94 yz_L_boxOfItem : Cond) ∈ zw_T := List.mem_of_getElem? (i := 160) rfl
theorem zi_161 : (.instanceMethod yz_L_boxOfItem : Cond) ∈ zw_T := List.mem_of_getElem? (i := 161) rfl
theorem zi_162 : (.code yz_L_boxOfItem cz_L_boxOfItem 4 (some (.object "LockerRows$Box")) : Cond) ∈ zw_T := List.mem_of_getElem? (i := 162) rfl
theorem zi_163 : (.instanceMethod yz_B_receive : Cond) ∈ zw_T := List.mem_of_getElem? (i := 163) rfl
theorem zi_164 : (.code yz_B_receive cz_B_receive 2 (Option.none : Option Jvm.ClassFile.FieldType) : Cond) ∈ zw_T := List.mem_of_getElem? (i := 164) rfl
theorem zi_165 : (.methodLink RzW 34 yz_L_close : Cond) ∈ zw_T := List.mem_of_getElem? (i := 165) rfl
theorem zi_166 : (.instanceMethod yz_L_close : Cond) ∈ zw_T := List.mem_of_getElem? (i := 166) rfl
theorem zi_167 : (.selects RzL yz_L_close yz_L_close : Cond) ∈ zw_T := List.mem_of_getElem? (i := 167) rfl
theorem zi_168 : (.code yz_L_close cz_L_close 6 (some .int) : Cond) ∈ zw_T := List.mem_of_getElem? (i := 168) rfl
theorem zi_169 : (.instanceMethod yz_B_wantsCode : Cond) ∈ zw_T := List.mem_of_getElem? (i := 169) rfl
theorem zi_170 : (.code yz_B_wantsCode cz_B_wantsCode 1 (some .boolean) : Cond) ∈ zw_T := List.mem_of_getElem? (i := 170) rfl
theorem zi_171 : (.methodLink RzL 103 yz_L_wantedCode : Cond) ∈ zw_T := List.mem_of_getElem? (i := 171) rfl
theorem zi_172 : (.instanceMethod yz_L_wantedCode : Cond) ∈ zw_T := List.mem_of_getElem? (i := 172) rfl
theorem zi_173 : (.code yz_L_wantedCode cz_L_wantedCode 3 (some .int) : Cond) ∈ zw_T := List.mem_of_getElem? (i := 173) rfl
theorem zi_174 : (.instanceMethod yz_T_at : Cond) ∈ zw_T := List.mem_of_getElem? (i := 174) rfl
theorem zi_175 : (.code yz_T_at cz_T_at 2 (some .int) : Cond) ∈ zw_T := List.mem_of_getElem? (i := 175) rfl
theorem zi_176 : (.methodLink RzL 110 yz_L_boxNumberOfCode : Cond) ∈ zw_T := List.mem_of_getElem? (i := 176) rfl
theorem zi_177 : (.instanceMethod yz_L_boxNumberOfCode : Cond) ∈ zw_T := List.mem_of_getElem? (i := 177) rfl
theorem zi_178 : (.code yz_L_boxNumberOfCode cz_L_boxNumberOfCode 4 (some .int) : Cond) ∈ zw_T := List.mem_of_getElem? (i := 178) rfl
theorem zi_179 : (.instanceMethod yz_T_dropFirst : Cond) ∈ zw_T := List.mem_of_getElem? (i := 179) rfl
theorem zi_180 : (.code yz_T_dropFirst cz_T_dropFirst 2 (Option.none : Option Jvm.ClassFile.FieldType) : Cond) ∈ zw_T := List.mem_of_getElem? (i := 180) rfl
theorem zi_181 : (.methodLink RzT 19 arraycopyName : Cond) ∈ zw_T := List.mem_of_getElem? (i := 181) rfl
theorem zi_182 : (.static arraycopyName : Cond) ∈ zw_T := List.mem_of_getElem? (i := 182) rfl
theorem zi_183 : (.native arraycopyName : Cond) ∈ zw_T := List.mem_of_getElem? (i := 183) rfl
theorem zi_184 : (.instanceMethod yz_B_layDown : Cond) ∈ zw_T := List.mem_of_getElem? (i := 184) rfl
theorem zi_185 : (.code yz_B_layDown cz_B_layDown 4 (Option.none : Option Jvm.ClassFile.FieldType) : Cond) ∈ zw_T := List.mem_of_getElem? (i := 185) rfl
theorem zi_186 : (.methodLink RzW 38 yz_L_type : Cond) ∈ zw_T := List.mem_of_getElem? (i := 186) rfl
theorem zi_187 : (.instanceMethod yz_L_type : Cond) ∈ zw_T := List.mem_of_getElem? (i := 187) rfl
theorem zi_188 : (.selects RzL yz_L_type yz_L_type : Cond) ∈ zw_T := List.mem_of_getElem? (i := 188) rfl
theorem zi_189 : (.code yz_L_type cz_L_type 6 (some .int) : Cond) ∈ zw_T := List.mem_of_getElem? (i := 189) rfl
theorem zi_190 : (.methodLink RzL 113 yz_L_countWrongTry : Cond) ∈ zw_T := List.mem_of_getElem? (i := 190) rfl
theorem zi_191 : (.instanceMethod yz_L_countWrongTry : Cond) ∈ zw_T := List.mem_of_getElem? (i := 191) rfl
theorem zi_192 : (.code yz_L_countWrongTry cz_L_countWrongTry 3 (Option.none : Option Jvm.ClassFile.FieldType) : Cond) ∈ zw_T := List.mem_of_getElem? (i := 192) rfl
theorem zi_193 : (.constantLong RzL 160 300 : Cond) ∈ zw_T := List.mem_of_getElem? (i := 193) rfl
theorem zi_194 : (.instanceMethod yz_B_clear : Cond) ∈ zw_T := List.mem_of_getElem? (i := 194) rfl
theorem zi_195 : (.code yz_B_clear cz_B_clear 1 (Option.none : Option Jvm.ClassFile.FieldType) : Cond) ∈ zw_T := List.mem_of_getElem? (i := 195) rfl
theorem zi_196 : (.instanceMethod yz_B_beginOpening : Cond) ∈ zw_T := List.mem_of_getElem? (i := 196) rfl
theorem zi_197 : (.code yz_B_beginOpening cz_B_beginOpening 4 (Option.none : Option Jvm.ClassFile.FieldType) : Cond) ∈ zw_T := List.mem_of_getElem? (i := 197) rfl
theorem zi_198 : (.methodLink RzW 42 yz_L_code : Cond) ∈ zw_T := List.mem_of_getElem? (i := 198) rfl
theorem zi_199 : (.instanceMethod yz_L_code : Cond) ∈ zw_T := List.mem_of_getElem? (i := 199) rfl
theorem zi_200 : (.selects RzL yz_L_code yz_L_code : Cond) ∈ zw_T := List.mem_of_getElem? (i := 200) rfl
theorem zi_201 : (.code yz_L_code cz_L_code 3 (some .int) : Cond) ∈ zw_T := List.mem_of_getElem? (i := 201) rfl
theorem zi_202 : (.methodLink RzW 46 yz_L_door : Cond) ∈ zw_T := List.mem_of_getElem? (i := 202) rfl
theorem zi_203 : (.instanceMethod yz_L_door : Cond) ∈ zw_T := List.mem_of_getElem? (i := 203) rfl
theorem zi_204 : (.selects RzL yz_L_door yz_L_door : Cond) ∈ zw_T := List.mem_of_getElem? (i := 204) rfl
theorem zi_205 : (.code yz_L_door cz_L_door 6 (some .int) : Cond) ∈ zw_T := List.mem_of_getElem? (i := 205) rfl
theorem zi_206 : (.static yz_B_isEvent : Cond) ∈ zw_T := List.mem_of_getElem? (i := 206) rfl
theorem zi_207 : (.code yz_B_isEvent cz_B_isEvent 1 (some .boolean) : Cond) ∈ zw_T := List.mem_of_getElem? (i := 207) rfl
theorem zi_208 : (.instanceMethod yz_B_admits : Cond) ∈ zw_T := List.mem_of_getElem? (i := 208) rfl
theorem zi_209 : (.code yz_B_admits cz_B_admits 2 (some .boolean) : Cond) ∈ zw_T := List.mem_of_getElem? (i := 209) rfl
theorem zi_210 : (.methodLink RzB 48 yz_B_isUnused : Cond) ∈ zw_T := List.mem_of_getElem? (i := 210) rfl
theorem zi_211 : (.instanceMethod yz_B_undergo : Cond) ∈ zw_T := List.mem_of_getElem? (i := 211) rfl
theorem zi_212 : (.code yz_B_undergo cz_B_undergo 4 (Option.none : Option Jvm.ClassFile.FieldType) : Cond) ∈ zw_T := List.mem_of_getElem? (i := 212) rfl
theorem zi_213 : (.methodLink RzB 51 yz_B_beginOpening : Cond) ∈ zw_T := List.mem_of_getElem? (i := 213) rfl
theorem zi_214 : (.methodLink RzW 50 yz_L_tick : Cond) ∈ zw_T := List.mem_of_getElem? (i := 214) rfl
theorem zi_215 : (.instanceMethod yz_L_tick : Cond) ∈ zw_T := List.mem_of_getElem? (i := 215) rfl
theorem zi_216 : (.selects RzL yz_L_tick yz_L_tick : Cond) ∈ zw_T := List.mem_of_getElem? (i := 216) rfl
theorem zi_217 : (.code yz_L_tick cz_L_tick 4 (some .int) : Cond) ∈ zw_T := List.mem_of_getElem? (i := 217) rfl
theorem zi_218 : (.methodLink RzW 55 yz_L_take : Cond) ∈ zw_T := List.mem_of_getElem? (i := 218) rfl
theorem zi_219 : (.instanceMethod yz_L_take : Cond) ∈ zw_T := List.mem_of_getElem? (i := 219) rfl
theorem zi_220 : (.selects RzL yz_L_take yz_L_take : Cond) ∈ zw_T := List.mem_of_getElem? (i := 220) rfl
theorem zi_221 : (.code yz_L_take cz_L_take 5 (some .int) : Cond) ∈ zw_T := List.mem_of_getElem? (i := 221) rfl
theorem zi_222 : (.methodLink RzW 60 yz_L_item : Cond) ∈ zw_T := List.mem_of_getElem? (i := 222) rfl
theorem zi_223 : (.instanceMethod yz_L_item : Cond) ∈ zw_T := List.mem_of_getElem? (i := 223) rfl
theorem zi_224 : (.selects RzL yz_L_item yz_L_item : Cond) ∈ zw_T := List.mem_of_getElem? (i := 224) rfl
theorem zi_225 : (.code yz_L_item cz_L_item 3 (some .int) : Cond) ∈ zw_T := List.mem_of_getElem? (i := 225) rfl
theorem zi_226 : (.methodLink RzW 64 yz_L_freed : Cond) ∈ zw_T := List.mem_of_getElem? (i := 226) rfl
theorem zi_227 : (.instanceMethod yz_L_freed : Cond) ∈ zw_T := List.mem_of_getElem? (i := 227) rfl
theorem zi_228 : (.selects RzL yz_L_freed yz_L_freed : Cond) ∈ zw_T := List.mem_of_getElem? (i := 228) rfl
theorem zi_229 : (.code yz_L_freed cz_L_freed 2 (some .int) : Cond) ∈ zw_T := List.mem_of_getElem? (i := 229) rfl
theorem zi_230 : (.classLink RzW 10 RzM : Cond) ∈ zw_T := List.mem_of_getElem? (i := 230) rfl
theorem zi_231 : (.instantiable RzM 18 : Cond) ∈ zw_T := List.mem_of_getElem? (i := 231) rfl
theorem zi_232 : (.methodLink RzW 12 yz_M_init : Cond) ∈ zw_T := List.mem_of_getElem? (i := 232) rfl
theorem zi_233 : (.instanceMethod yz_M_init : Cond) ∈ zw_T := List.mem_of_getElem? (i := 233) rfl
theorem zi_234 : (.code yz_M_init cz_M_init 1 (Option.none : Option Jvm.ClassFile.FieldType) : Cond) ∈ zw_T := List.mem_of_getElem? (i := 234) rfl
theorem zi_235 : (.methodLink RzM 1 objectInit : Cond) ∈ zw_T := List.mem_of_getElem? (i := 235) rfl
theorem zi_236 : (.fieldLink RzM 45 "LockerRowsModel" "boxes" "I" : Cond) ∈ zw_T := List.mem_of_getElem? (i := 236) rfl
theorem zi_237 : (.fieldLink RzM 7 "LockerRowsModel" "sizes" "[I" : Cond) ∈ zw_T := List.mem_of_getElem? (i := 237) rfl
theorem zi_238 : (.fieldLink RzM 13 "LockerRowsModel" "doors" "[I" : Cond) ∈ zw_T := List.mem_of_getElem? (i := 238) rfl
theorem zi_239 : (.fieldLink RzM 16 "LockerRowsModel" "since" "[J" : Cond) ∈ zw_T := List.mem_of_getElem? (i := 239) rfl
theorem zi_240 : (.fieldLink RzM 20 "LockerRowsModel" "told" "[Z" : Cond) ∈ zw_T := List.mem_of_getElem? (i := 240) rfl
theorem zi_241 : (.fieldLink RzM 24 "LockerRowsModel" "items" "[I" : Cond) ∈ zw_T := List.mem_of_getElem? (i := 241) rfl
theorem zi_242 : (.fieldLink RzM 27 "LockerRowsModel" "codes" "[I" : Cond) ∈ zw_T := List.mem_of_getElem? (i := 242) rfl
theorem zi_243 : (.fieldLink RzM 30 "LockerRowsModel" "lies" "[J" : Cond) ∈ zw_T := List.mem_of_getElem? (i := 243) rfl
theorem zi_244 : (.fieldLink RzM 33 "LockerRowsModel" "late" "[Z" : Cond) ∈ zw_T := List.mem_of_getElem? (i := 244) rfl
theorem zi_245 : (.fieldLink RzM 36 "LockerRowsModel" "kept" "[J" : Cond) ∈ zw_T := List.mem_of_getElem? (i := 245) rfl
theorem zi_246 : (.fieldLink RzM 60 "LockerRowsModel" "time" "J" : Cond) ∈ zw_T := List.mem_of_getElem? (i := 246) rfl
theorem zi_247 : (.fieldLink RzM 71 "LockerRowsModel" "alarms" "I" : Cond) ∈ zw_T := List.mem_of_getElem? (i := 247) rfl
theorem zi_248 : (.fieldLink RzM 104 "LockerRowsModel" "wrong" "I" : Cond) ∈ zw_T := List.mem_of_getElem? (i := 248) rfl
theorem zi_249 : (.fieldLink RzM 93 "LockerRowsModel" "waits" "J" : Cond) ∈ zw_T := List.mem_of_getElem? (i := 249) rfl
theorem zi_250 : (.fieldLink RzM 57 "LockerRowsModel" "taped" "I" : Cond) ∈ zw_T := List.mem_of_getElem? (i := 250) rfl
theorem zi_251 : (.fieldLink RzM 39 "LockerRowsModel" "tape" "[I" : Cond) ∈ zw_T := List.mem_of_getElem? (i := 251) rfl
theorem zi_252 : (.fieldLink RzM 66 "LockerRowsModel" "freed" "I" : Cond) ∈ zw_T := List.mem_of_getElem? (i := 252) rfl
theorem zi_253 : (.fieldLink RzM 42 "LockerRowsModel" "free" "[I" : Cond) ∈ zw_T := List.mem_of_getElem? (i := 253) rfl
theorem zi_254 : (.lays "LockerRowsModel" "LockerRowsModel" "boxes" "I" : Cond) ∈ zw_T := List.mem_of_getElem? (i := 254) rfl
theorem zi_255 : (.laysFinal "LockerRowsModel" "LockerRowsModel" "sizes" "[I" : Cond) ∈ zw_T := List.mem_of_getElem? (i := 255) rfl
theorem zi_256 : (.laysFinal "LockerRowsModel" "LockerRowsModel" "doors" "[I" : Cond) ∈ zw_T := List.mem_of_getElem? (i := 256) rfl
theorem zi_257 : (.laysFinal "LockerRowsModel" "LockerRowsModel" "since" "[J" : Cond) ∈ zw_T := List.mem_of_getElem? (i := 257) rfl
theorem zi_258 : (.laysFinal "LockerRowsModel" "LockerRowsModel" "told" "[Z" : Cond) ∈ zw_T := List.mem_of_getElem? (i := 258) rfl
theorem zi_259 : (.laysFinal "LockerRowsModel" "LockerRowsModel" "items" "[I" : Cond) ∈ zw_T := List.mem_of_getElem? (i := 259) rfl
theorem zi_260 : (.laysFinal "LockerRowsModel" "LockerRowsModel" "codes" "[I" : Cond) ∈ zw_T := List.mem_of_getElem? (i := 260) rfl
theorem zi_261 : (.laysFinal "LockerRowsModel" "LockerRowsModel" "lies" "[J" : Cond) ∈ zw_T := List.mem_of_getElem? (i := 261) rfl
theorem zi_262 : (.laysFinal "LockerRowsModel" "LockerRowsModel" "late" "[Z" : Cond) ∈ zw_T := List.mem_of_getElem? (i := 262) rfl
theorem zi_263 : (.laysFinal "LockerRowsModel" "LockerRowsModel" "kept" "[J" : Cond) ∈ zw_T := List.mem_of_getElem? (i := 263) rfl
theorem zi_264 : (.lays "LockerRowsModel" "LockerRowsModel" "time" "J" : Cond) ∈ zw_T := List.mem_of_getElem? (i := 264) rfl
theorem zi_265 : (.lays "LockerRowsModel" "LockerRowsModel" "alarms" "I" : Cond) ∈ zw_T := List.mem_of_getElem? (i := 265) rfl
theorem zi_266 : (.lays "LockerRowsModel" "LockerRowsModel" "wrong" "I" : Cond) ∈ zw_T := List.mem_of_getElem? (i := 266) rfl
theorem zi_267 : (.lays "LockerRowsModel" "LockerRowsModel" "waits" "J" : Cond) ∈ zw_T := List.mem_of_getElem? (i := 267) rfl
theorem zi_268 : (.lays "LockerRowsModel" "LockerRowsModel" "taped" "I" : Cond) ∈ zw_T := List.mem_of_getElem? (i := 268) rfl
theorem zi_269 : (.laysFinal "LockerRowsModel" "LockerRowsModel" "tape" "[I" : Cond) ∈ zw_T := List.mem_of_getElem? (i := 269) rfl
theorem zi_270 : (.lays "LockerRowsModel" "LockerRowsModel" "freed" "I" : Cond) ∈ zw_T := List.mem_of_getElem? (i := 270) rfl
theorem zi_271 : (.laysFinal "LockerRowsModel" "LockerRowsModel" "free" "[I" : Cond) ∈ zw_T := List.mem_of_getElem? (i := 271) rfl
theorem zi_272 : (.arrayClass .long : Cond) ∈ zw_T := List.mem_of_getElem? (i := 272) rfl
theorem zi_273 : (.arrayClass .boolean : Cond) ∈ zw_T := List.mem_of_getElem? (i := 273) rfl
theorem zi_274 : (.methodLink RzW 17 yz_M_box : Cond) ∈ zw_T := List.mem_of_getElem? (i := 274) rfl
theorem zi_275 : (.instanceMethod yz_M_box : Cond) ∈ zw_T := List.mem_of_getElem? (i := 275) rfl
theorem zi_276 : (.selects RzM yz_M_box yz_M_box : Cond) ∈ zw_T := List.mem_of_getElem? (i := 276) rfl
theorem zi_277 : (.code yz_M_box cz_M_box 2 (some .int) : Cond) ∈ zw_T := List.mem_of_getElem? (i := 277) rfl
theorem zi_278 : (.constantLong RzM 53 5 : Cond) ∈ zw_T := List.mem_of_getElem? (i := 278) rfl
theorem zi_279 : (.methodLink RzM 49 yz_M_within : Cond) ∈ zw_T := List.mem_of_getElem? (i := 279) rfl
theorem zi_280 : (.static yz_M_within : Cond) ∈ zw_T := List.mem_of_getElem? (i := 280) rfl
theorem zi_281 : (.code yz_M_within cz_M_within 6 (some .boolean) : Cond) ∈ zw_T := List.mem_of_getElem? (i := 281) rfl
theorem zi_282 : (.methodLink RzW 21 yz_M_tape : Cond) ∈ zw_T := List.mem_of_getElem? (i := 282) rfl
theorem zi_283 : (.instanceMethod yz_M_tape : Cond) ∈ zw_T := List.mem_of_getElem? (i := 283) rfl
theorem zi_284 : (.selects RzM yz_M_tape yz_M_tape : Cond) ∈ zw_T := List.mem_of_getElem? (i := 284) rfl
theorem zi_285 : (.code yz_M_tape cz_M_tape 2 (some .int) : Cond) ∈ zw_T := List.mem_of_getElem? (i := 285) rfl
theorem zi_286 : (.constantLong RzM 55 999999 : Cond) ∈ zw_T := List.mem_of_getElem? (i := 286) rfl
theorem zi_287 : (.methodLink RzW 28 yz_M_reserve : Cond) ∈ zw_T := List.mem_of_getElem? (i := 287) rfl
theorem zi_288 : (.instanceMethod yz_M_reserve : Cond) ∈ zw_T := List.mem_of_getElem? (i := 288) rfl
theorem zi_289 : (.selects RzM yz_M_reserve yz_M_reserve : Cond) ∈ zw_T := List.mem_of_getElem? (i := 289) rfl
theorem zi_290 : (.code yz_M_reserve cz_M_reserve 7 (some .int) : Cond) ∈ zw_T := List.mem_of_getElem? (i := 290) rfl
theorem zi_291 : (.constantLong RzM 64 2000000000 : Cond) ∈ zw_T := List.mem_of_getElem? (i := 291) rfl
theorem zi_292 : (.methodLink RzW 33 yz_M_put : Cond) ∈ zw_T := List.mem_of_getElem? (i := 292) rfl
theorem zi_293 : (.instanceMethod yz_M_put : Cond) ∈ zw_T := List.mem_of_getElem? (i := 293) rfl
theorem zi_294 : (.selects RzM yz_M_put yz_M_put : Cond) ∈ zw_T := List.mem_of_getElem? (i := 294) rfl
theorem zi_295 : (.code yz_M_put cz_M_put 7 (some .int) : Cond) ∈ zw_T := List.mem_of_getElem? (i := 295) rfl
theorem zi_296 : (.methodLink RzM 76 yz_M_isBox : Cond) ∈ zw_T := List.mem_of_getElem? (i := 296) rfl
theorem zi_297 : (.instanceMethod yz_M_isBox : Cond) ∈ zw_T := List.mem_of_getElem? (i := 297) rfl
theorem zi_298 : (.code yz_M_isBox cz_M_isBox 2 (some .boolean) : Cond) ∈ zw_T := List.mem_of_getElem? (i := 298) rfl
theorem zi_299 : (.constantLong RzM 80 9999 : Cond) ∈ zw_T := List.mem_of_getElem? (i := 299) rfl
theorem zi_300 : (.methodLink RzM 82 yz_M_isNoTime : Cond) ∈ zw_T := List.mem_of_getElem? (i := 300) rfl
theorem zi_301 : (.instanceMethod yz_M_isNoTime : Cond) ∈ zw_T := List.mem_of_getElem? (i := 301) rfl
theorem zi_302 : (.code yz_M_isNoTime cz_M_isNoTime 3 (some .boolean) : Cond) ∈ zw_T := List.mem_of_getElem? (i := 302) rfl
theorem zi_303 : (.methodLink RzM 86 yz_M_pass : Cond) ∈ zw_T := List.mem_of_getElem? (i := 303) rfl
theorem zi_304 : (.instanceMethod yz_M_pass : Cond) ∈ zw_T := List.mem_of_getElem? (i := 304) rfl
theorem zi_305 : (.code yz_M_pass cz_M_pass 5 (Option.none : Option Jvm.ClassFile.FieldType) : Cond) ∈ zw_T := List.mem_of_getElem? (i := 305) rfl
theorem zi_306 : (.constantLong RzM 69 120 : Cond) ∈ zw_T := List.mem_of_getElem? (i := 306) rfl
theorem zi_307 : (.constantLong RzM 74 604800 : Cond) ∈ zw_T := List.mem_of_getElem? (i := 307) rfl
theorem zi_308 : (.methodLink RzW 37 yz_M_close : Cond) ∈ zw_T := List.mem_of_getElem? (i := 308) rfl
theorem zi_309 : (.instanceMethod yz_M_close : Cond) ∈ zw_T := List.mem_of_getElem? (i := 309) rfl
theorem zi_310 : (.selects RzM yz_M_close yz_M_close : Cond) ∈ zw_T := List.mem_of_getElem? (i := 310) rfl
theorem zi_311 : (.code yz_M_close cz_M_close 7 (some .int) : Cond) ∈ zw_T := List.mem_of_getElem? (i := 311) rfl
theorem zi_312 : (.methodLink RzM 90 yz_M_isCode : Cond) ∈ zw_T := List.mem_of_getElem? (i := 312) rfl
theorem zi_313 : (.instanceMethod yz_M_isCode : Cond) ∈ zw_T := List.mem_of_getElem? (i := 313) rfl
theorem zi_314 : (.code yz_M_isCode cz_M_isCode 3 (some .boolean) : Cond) ∈ zw_T := List.mem_of_getElem? (i := 314) rfl
theorem zi_315 : (.methodLink RzW 41 yz_M_type : Cond) ∈ zw_T := List.mem_of_getElem? (i := 315) rfl
theorem zi_316 : (.instanceMethod yz_M_type : Cond) ∈ zw_T := List.mem_of_getElem? (i := 316) rfl
theorem zi_317 : (.selects RzM yz_M_type yz_M_type : Cond) ∈ zw_T := List.mem_of_getElem? (i := 317) rfl
theorem zi_318 : (.code yz_M_type cz_M_type 5 (some .int) : Cond) ∈ zw_T := List.mem_of_getElem? (i := 318) rfl
theorem zi_319 : (.methodLink RzM 96 yz_M_out : Cond) ∈ zw_T := List.mem_of_getElem? (i := 319) rfl
theorem zi_320 : (.instanceMethod yz_M_out : Cond) ∈ zw_T := List.mem_of_getElem? (i := 320) rfl
theorem zi_321 : (.code yz_M_out cz_M_out 3 (some .int) : Cond) ∈ zw_T := List.mem_of_getElem? (i := 321) rfl
theorem zi_322 : (.methodLink RzM 100 yz_M_open : Cond) ∈ zw_T := List.mem_of_getElem? (i := 322) rfl
theorem zi_323 : (.instanceMethod yz_M_open : Cond) ∈ zw_T := List.mem_of_getElem? (i := 323) rfl
theorem zi_324 : (.code yz_M_open cz_M_open 3 (Option.none : Option Jvm.ClassFile.FieldType) : Cond) ∈ zw_T := List.mem_of_getElem? (i := 324) rfl
theorem zi_325 : (.constantLong RzM 107 300 : Cond) ∈ zw_T := List.mem_of_getElem? (i := 325) rfl
theorem zi_326 : (.methodLink RzW 45 yz_M_code : Cond) ∈ zw_T := List.mem_of_getElem? (i := 326) rfl
theorem zi_327 : (.instanceMethod yz_M_code : Cond) ∈ zw_T := List.mem_of_getElem? (i := 327) rfl
theorem zi_328 : (.selects RzM yz_M_code yz_M_code : Cond) ∈ zw_T := List.mem_of_getElem? (i := 328) rfl
theorem zi_329 : (.code yz_M_code cz_M_code 3 (some .int) : Cond) ∈ zw_T := List.mem_of_getElem? (i := 329) rfl
theorem zi_330 : (.methodLink RzW 49 yz_M_door : Cond) ∈ zw_T := List.mem_of_getElem? (i := 330) rfl
theorem zi_331 : (.instanceMethod yz_M_door : Cond) ∈ zw_T := List.mem_of_getElem? (i := 331) rfl
theorem zi_332 : (.selects RzM yz_M_door yz_M_door : Cond) ∈ zw_T := List.mem_of_getElem? (i := 332) rfl
theorem zi_333 : (.code yz_M_door cz_M_door 7 (some .int) : Cond) ∈ zw_T := List.mem_of_getElem? (i := 333) rfl
theorem zi_334 : (.constantLong RzM 109 4 : Cond) ∈ zw_T := List.mem_of_getElem? (i := 334) rfl
theorem zi_335 : (.methodLink RzW 54 yz_M_tick : Cond) ∈ zw_T := List.mem_of_getElem? (i := 335) rfl
theorem zi_336 : (.instanceMethod yz_M_tick : Cond) ∈ zw_T := List.mem_of_getElem? (i := 336) rfl
theorem zi_337 : (.selects RzM yz_M_tick yz_M_tick : Cond) ∈ zw_T := List.mem_of_getElem? (i := 337) rfl
theorem zi_338 : (.code yz_M_tick cz_M_tick 4 (some .int) : Cond) ∈ zw_T := List.mem_of_getElem? (i := 338) rfl
theorem zi_339 : (.methodLink RzW 59 yz_M_take : Cond) ∈ zw_T := List.mem_of_getElem? (i := 339) rfl
theorem zi_340 : (.instanceMethod yz_M_take : Cond) ∈ zw_T := List.mem_of_getElem? (i := 340) rfl
theorem zi_341 : (.selects RzM yz_M_take yz_M_take : Cond) ∈ zw_T := List.mem_of_getElem? (i := 341) rfl
theorem zi_342 : (.code yz_M_take cz_M_take 3 (some .int) : Cond) ∈ zw_T := List.mem_of_getElem? (i := 342) rfl
theorem zi_343 : (.constantLong RzM 111 9 : Cond) ∈ zw_T := List.mem_of_getElem? (i := 343) rfl
theorem zi_344 : (.methodLink RzW 63 yz_M_item : Cond) ∈ zw_T := List.mem_of_getElem? (i := 344) rfl
theorem zi_345 : (.instanceMethod yz_M_item : Cond) ∈ zw_T := List.mem_of_getElem? (i := 345) rfl
theorem zi_346 : (.selects RzM yz_M_item yz_M_item : Cond) ∈ zw_T := List.mem_of_getElem? (i := 346) rfl
theorem zi_347 : (.code yz_M_item cz_M_item 2 (some .int) : Cond) ∈ zw_T := List.mem_of_getElem? (i := 347) rfl
theorem zi_348 : (.methodLink RzW 67 yz_M_freed : Cond) ∈ zw_T := List.mem_of_getElem? (i := 348) rfl
theorem zi_349 : (.instanceMethod yz_M_freed : Cond) ∈ zw_T := List.mem_of_getElem? (i := 349) rfl
theorem zi_350 : (.selects RzM yz_M_freed yz_M_freed : Cond) ∈ zw_T := List.mem_of_getElem? (i := 350) rfl
theorem zi_351 : (.code yz_M_freed cz_M_freed 2 (some .int) : Cond) ∈ zw_T := List.mem_of_getElem? (i := 351) rfl
theorem zi_352 : (.constantLong RzW 22 4294967295 : Cond) ∈ zw_T := List.mem_of_getElem? (i := 352) rfl
theorem zn_0 : (.arrayOver (.object "LockerRows$Box") : Cond) ∈ zw_ns := List.mem_of_getElem? (i := 0) rfl
theorem zn_1 : (.methodLinkNest RzL 21 yz_T_init "LockerRows" : Cond) ∈ zw_ns := List.mem_of_getElem? (i := 1) rfl
theorem zn_2 : (.methodLinkNest RzL 50 yz_B_init "LockerRows" : Cond) ∈ zw_ns := List.mem_of_getElem? (i := 2) rfl
theorem zn_3 : (.fieldLinkNest RzL 151 "LockerRows$Box" "size" "I" "LockerRows" : Cond) ∈ zw_ns := List.mem_of_getElem? (i := 3) rfl
theorem zn_4 : (.fieldLinkNest RzL 87 "LockerRows$Box" "door" "I" "LockerRows" : Cond) ∈ zw_ns := List.mem_of_getElem? (i := 4) rfl
theorem zn_5 : (.fieldLinkNest RzL 137 "LockerRows$Box" "item" "I" "LockerRows" : Cond) ∈ zw_ns := List.mem_of_getElem? (i := 5) rfl
theorem zn_6 : (.fieldLinkNest RzL 122 "LockerRows$Box" "code" "I" "LockerRows" : Cond) ∈ zw_ns := List.mem_of_getElem? (i := 6) rfl
theorem zn_7 : (.fieldLinkNest RzL 140 "LockerRows$Box" "late" "Z" "LockerRows" : Cond) ∈ zw_ns := List.mem_of_getElem? (i := 7) rfl
theorem zn_8 : (.fieldLinkNest RzL 73 "LockerRows$Box" "keptUntil" "J" "LockerRows" : Cond) ∈ zw_ns := List.mem_of_getElem? (i := 8) rfl
theorem zn_9 : (.methodLinkNest RzL 56 yz_T_append "LockerRows" : Cond) ∈ zw_ns := List.mem_of_getElem? (i := 9) rfl
theorem zn_10 : (.methodLinkNest RzL 59 yz_T_length "LockerRows" : Cond) ∈ zw_ns := List.mem_of_getElem? (i := 10) rfl
theorem zn_11 : (.methodLinkNest RzL 148 yz_B_isUnused "LockerRows" : Cond) ∈ zw_ns := List.mem_of_getElem? (i := 11) rfl
theorem zn_12 : (.methodLinkNest RzL 162 yz_B_freeIfDue "LockerRows" : Cond) ∈ zw_ns := List.mem_of_getElem? (i := 12) rfl
theorem zn_13 : (.methodLinkNest RzL 168 yz_B_tellAlarms "LockerRows" : Cond) ∈ zw_ns := List.mem_of_getElem? (i := 13) rfl
theorem zn_14 : (.methodLinkNest RzL 90 yz_B_isEmpty "LockerRows" : Cond) ∈ zw_ns := List.mem_of_getElem? (i := 14) rfl
theorem zn_15 : (.methodLinkNest RzL 97 yz_B_receive "LockerRows" : Cond) ∈ zw_ns := List.mem_of_getElem? (i := 15) rfl
theorem zn_16 : (.methodLinkNest RzL 100 yz_B_wantsCode "LockerRows" : Cond) ∈ zw_ns := List.mem_of_getElem? (i := 16) rfl
theorem zn_17 : (.methodLinkNest RzL 154 yz_T_at "LockerRows" : Cond) ∈ zw_ns := List.mem_of_getElem? (i := 17) rfl
theorem zn_18 : (.methodLinkNest RzL 145 yz_B_lies "LockerRows" : Cond) ∈ zw_ns := List.mem_of_getElem? (i := 18) rfl
theorem zn_19 : (.methodLinkNest RzL 157 yz_T_dropFirst "LockerRows" : Cond) ∈ zw_ns := List.mem_of_getElem? (i := 19) rfl
theorem zn_20 : (.methodLinkNest RzL 106 yz_B_layDown "LockerRows" : Cond) ∈ zw_ns := List.mem_of_getElem? (i := 20) rfl
theorem zn_21 : (.methodLinkNest RzL 116 yz_B_clear "LockerRows" : Cond) ∈ zw_ns := List.mem_of_getElem? (i := 21) rfl
theorem zn_22 : (.methodLinkNest RzL 119 yz_B_beginOpening "LockerRows" : Cond) ∈ zw_ns := List.mem_of_getElem? (i := 22) rfl
theorem zn_23 : (.methodLinkNest RzL 125 yz_B_isEvent "LockerRows" : Cond) ∈ zw_ns := List.mem_of_getElem? (i := 23) rfl
theorem zn_24 : (.methodLinkNest RzL 128 yz_B_admits "LockerRows" : Cond) ∈ zw_ns := List.mem_of_getElem? (i := 24) rfl
theorem zn_25 : (.methodLinkNest RzL 131 yz_B_undergo "LockerRows" : Cond) ∈ zw_ns := List.mem_of_getElem? (i := 25) rfl
theorem zn_26 : (.methodLinkNest RzL 134 yz_B_isOpenOrForced "LockerRows" : Cond) ∈ zw_ns := List.mem_of_getElem? (i := 26) rfl
theorem zw_nsub : ∀ w ∈ zw_ns, w ∈ lw_tbl := by rw [zw_lt]; exact List.forall_mem_cons.mpr ⟨zk_0, List.forall_mem_cons.mpr ⟨zk_1, List.forall_mem_cons.mpr ⟨zk_2, List.forall_mem_cons.mpr ⟨zk_3, List.forall_mem_cons.mpr ⟨zk_4, List.forall_mem_cons.mpr ⟨zk_5, List.forall_mem_cons.mpr ⟨zk_6, List.forall_mem_cons.mpr ⟨zk_7, List.forall_mem_cons.mpr ⟨zk_8, List.forall_mem_cons.mpr ⟨zk_9, List.forall_mem_cons.mpr ⟨zk_10, List.forall_mem_cons.mpr ⟨zk_11, List.forall_mem_cons.mpr ⟨zk_12, List.forall_mem_cons.mpr ⟨zk_13, List.forall_mem_cons.mpr ⟨zk_14, List.forall_mem_cons.mpr ⟨zk_15, List.forall_mem_cons.mpr ⟨zk_16, List.forall_mem_cons.mpr ⟨zk_17, List.forall_mem_cons.mpr ⟨zk_18, List.forall_mem_cons.mpr ⟨zk_19, List.forall_mem_cons.mpr ⟨zk_20, List.forall_mem_cons.mpr ⟨zk_21, List.forall_mem_cons.mpr ⟨zk_22, List.forall_mem_cons.mpr ⟨zk_23, List.forall_mem_cons.mpr ⟨zk_24, List.forall_mem_cons.mpr ⟨zk_25, List.forall_mem_cons.mpr ⟨zk_26, fun _ h => absurd h List.not_mem_nil⟩⟩⟩⟩⟩⟩⟩⟩⟩⟩⟩⟩⟩⟩⟩⟩⟩⟩⟩⟩⟩⟩⟩⟩⟩⟩⟩
set_option maxRecDepth 100000 in
theorem zw_Tgood : zw_T.all goodWord = true := by decide +kernel
set_option maxRecDepth 100000 in
theorem inzB : ∀ w ∈ u_ws RzB TzB 9, w ∈ zw_T := by decide +kernel
set_option maxRecDepth 100000 in
theorem inzT : ∀ w ∈ u_ws RzT TzT 2, w ∈ zw_T := by decide +kernel
set_option maxRecDepth 100000 in
theorem inzL : ∀ w ∈ u_ws RzL TzL 9, w ∈ zw_T := by decide +kernel
set_option maxRecDepth 100000 in
theorem inzM : ∀ w ∈ u_ws RzM TzM 18, w ∈ zw_T := by decide +kernel
def wz_L_init : List Cond := .code yz_L_init cz_L_init 1 (Option.none : Option Jvm.ClassFile.FieldType) :: zw_T
def wz_L_box : List Cond := .code yz_L_box cz_L_box 2 (some .int) :: zw_T
def wz_L_tape : List Cond := .code yz_L_tape cz_L_tape 2 (some .int) :: zw_T
def wz_L_reserve : List Cond := .code yz_L_reserve cz_L_reserve 6 (some .int) :: zw_T
def wz_L_put : List Cond := .code yz_L_put cz_L_put 6 (some .int) :: zw_T
def wz_L_close : List Cond := .code yz_L_close cz_L_close 6 (some .int) :: zw_T
def wz_L_type : List Cond := .code yz_L_type cz_L_type 6 (some .int) :: zw_T
def wz_L_code : List Cond := .code yz_L_code cz_L_code 3 (some .int) :: zw_T
def wz_L_door : List Cond := .code yz_L_door cz_L_door 6 (some .int) :: zw_T
def wz_L_tick : List Cond := .code yz_L_tick cz_L_tick 4 (some .int) :: zw_T
def wz_L_take : List Cond := .code yz_L_take cz_L_take 5 (some .int) :: zw_T
def wz_L_item : List Cond := .code yz_L_item cz_L_item 3 (some .int) :: zw_T
def wz_L_freed : List Cond := .code yz_L_freed cz_L_freed 2 (some .int) :: zw_T
def wz_L_isSize : List Cond := .code yz_L_isSize cz_L_isSize 1 (some .boolean) :: zw_T
def wz_L_isItem : List Cond := .code yz_L_isItem cz_L_isItem 1 (some .boolean) :: zw_T
def wz_L_isCode : List Cond := .code yz_L_isCode cz_L_isCode 1 (some .boolean) :: zw_T
def wz_L_isTime : List Cond := .code yz_L_isTime cz_L_isTime 3 (some .boolean) :: zw_T
def wz_L_boxAt : List Cond := .code yz_L_boxAt cz_L_boxAt 2 (some (.object "LockerRows$Box")) :: zw_T
def wz_L_boxOfItem : List Cond := .code yz_L_boxOfItem cz_L_boxOfItem 4 (some (.object "LockerRows$Box")) :: zw_T
def wz_L_boxNumberOfCode : List Cond := .code yz_L_boxNumberOfCode cz_L_boxNumberOfCode 4 (some .int) :: zw_T
def wz_L_smallestUnused : List Cond := .code yz_L_smallestUnused cz_L_smallestUnused 6 (some .int) :: zw_T
def wz_L_wantedCode : List Cond := .code yz_L_wantedCode cz_L_wantedCode 3 (some .int) :: zw_T
def wz_L_countWrongTry : List Cond := .code yz_L_countWrongTry cz_L_countWrongTry 3 (Option.none : Option Jvm.ClassFile.FieldType) :: zw_T
def wz_L_passTo : List Cond := .code yz_L_passTo cz_L_passTo 5 (Option.none : Option Jvm.ClassFile.FieldType) :: zw_T
def wz_L_noteFreed : List Cond := .code yz_L_noteFreed cz_L_noteFreed 2 (Option.none : Option Jvm.ClassFile.FieldType) :: zw_T
def wz_M_init : List Cond := .code yz_M_init cz_M_init 1 (Option.none : Option Jvm.ClassFile.FieldType) :: zw_T
def wz_M_within : List Cond := .code yz_M_within cz_M_within 6 (some .boolean) :: zw_T
def wz_M_isBox : List Cond := .code yz_M_isBox cz_M_isBox 2 (some .boolean) :: zw_T
def wz_M_box : List Cond := .code yz_M_box cz_M_box 2 (some .int) :: zw_T
def wz_M_tape : List Cond := .code yz_M_tape cz_M_tape 2 (some .int) :: zw_T
def wz_M_isNoTime : List Cond := .code yz_M_isNoTime cz_M_isNoTime 3 (some .boolean) :: zw_T
def wz_M_pass : List Cond := .code yz_M_pass cz_M_pass 5 (Option.none : Option Jvm.ClassFile.FieldType) :: zw_T
def wz_M_reserve : List Cond := .code yz_M_reserve cz_M_reserve 7 (some .int) :: zw_T
def wz_M_put : List Cond := .code yz_M_put cz_M_put 7 (some .int) :: zw_T
def wz_M_isCode : List Cond := .code yz_M_isCode cz_M_isCode 3 (some .boolean) :: zw_T
def wz_M_close : List Cond := .code yz_M_close cz_M_close 7 (some .int) :: zw_T
def wz_M_open : List Cond := .code yz_M_open cz_M_open 3 (Option.none : Option Jvm.ClassFile.FieldType) :: zw_T
def wz_M_out : List Cond := .code yz_M_out cz_M_out 3 (some .int) :: zw_T
def wz_M_type : List Cond := .code yz_M_type cz_M_type 5 (some .int) :: zw_T
def wz_M_code : List Cond := .code yz_M_code cz_M_code 3 (some .int) :: zw_T
def wz_M_door : List Cond := .code yz_M_door cz_M_door 7 (some .int) :: zw_T
def wz_M_tick : List Cond := .code yz_M_tick cz_M_tick 4 (some .int) :: zw_T
def wz_M_take : List Cond := .code yz_M_take cz_M_take 3 (some .int) :: zw_T
def wz_M_item : List Cond := .code yz_M_item cz_M_item 2 (some .int) :: zw_T
def wz_M_freed : List Cond := .code yz_M_freed cz_M_freed 2 (some .int) :: zw_T
def wz_B_init : List Cond := .code yz_B_init cz_B_init 2 (Option.none : Option Jvm.ClassFile.FieldType) :: zw_T
def wz_B_isEvent : List Cond := .code yz_B_isEvent cz_B_isEvent 1 (some .boolean) :: zw_T
def wz_B_isEmpty : List Cond := .code yz_B_isEmpty cz_B_isEmpty 1 (some .boolean) :: zw_T
def wz_B_lies : List Cond := .code yz_B_lies cz_B_lies 1 (some .boolean) :: zw_T
def wz_B_wantsCode : List Cond := .code yz_B_wantsCode cz_B_wantsCode 1 (some .boolean) :: zw_T
def wz_B_isOpenOrForced : List Cond := .code yz_B_isOpenOrForced cz_B_isOpenOrForced 1 (some .boolean) :: zw_T
def wz_B_isUnused : List Cond := .code yz_B_isUnused cz_B_isUnused 1 (some .boolean) :: zw_T
def wz_B_admits : List Cond := .code yz_B_admits cz_B_admits 2 (some .boolean) :: zw_T
def wz_B_undergo : List Cond := .code yz_B_undergo cz_B_undergo 4 (Option.none : Option Jvm.ClassFile.FieldType) :: zw_T
def wz_B_beginOpening : List Cond := .code yz_B_beginOpening cz_B_beginOpening 4 (Option.none : Option Jvm.ClassFile.FieldType) :: zw_T
def wz_B_receive : List Cond := .code yz_B_receive cz_B_receive 2 (Option.none : Option Jvm.ClassFile.FieldType) :: zw_T
def wz_B_layDown : List Cond := .code yz_B_layDown cz_B_layDown 4 (Option.none : Option Jvm.ClassFile.FieldType) :: zw_T
def wz_B_clear : List Cond := .code yz_B_clear cz_B_clear 1 (Option.none : Option Jvm.ClassFile.FieldType) :: zw_T
def wz_B_freeIfDue : List Cond := .code yz_B_freeIfDue cz_B_freeIfDue 3 (some .boolean) :: zw_T
def wz_B_tellAlarms : List Cond := .code yz_B_tellAlarms cz_B_tellAlarms 4 (some .int) :: zw_T
def wz_T_init : List Cond := .code yz_T_init cz_T_init 1 (Option.none : Option Jvm.ClassFile.FieldType) :: zw_T
def wz_T_length : List Cond := .code yz_T_length cz_T_length 1 (some .int) :: zw_T
def wz_T_append : List Cond := .code yz_T_append cz_T_append 2 (some .boolean) :: zw_T
def wz_T_at : List Cond := .code yz_T_at cz_T_at 2 (some .int) :: zw_T
def wz_T_dropFirst : List Cond := .code yz_T_dropFirst cz_T_dropFirst 2 (Option.none : Option Jvm.ClassFile.FieldType) :: zw_T
end
section
theorem dz_L_init_0 : decode cz_L_init 0 = .ok (.aload_n 0, 1) := by decide +kernel
theorem dz_L_init_1 : decode cz_L_init 1 = .ok (.invokespecial 1, 3) := by decide +kernel
theorem dz_L_init_4 : decode cz_L_init 4 = .ok (.aload_n 0, 1) := by decide +kernel
theorem dz_L_init_5 : decode cz_L_init 5 = .ok (.bipush 60, 2) := by decide +kernel
theorem dz_L_init_7 : decode cz_L_init 7 = .ok (.anewarray 9, 3) := by decide +kernel
theorem dz_L_init_10 : decode cz_L_init 10 = .ok (.putfield 11, 3) := by decide +kernel
theorem dz_L_init_13 : decode cz_L_init 13 = .ok (.aload_n 0, 1) := by decide +kernel
theorem dz_L_init_14 : decode cz_L_init 14 = .ok (.iconst 0, 1) := by decide +kernel
theorem dz_L_init_15 : decode cz_L_init 15 = .ok (.putfield 15, 3) := by decide +kernel
theorem dz_L_init_18 : decode cz_L_init 18 = .ok (.aload_n 0, 1) := by decide +kernel
theorem dz_L_init_19 : decode cz_L_init 19 = .ok (.new 19, 3) := by decide +kernel
theorem dz_L_init_22 : decode cz_L_init 22 = .ok (.dup, 1) := by decide +kernel
theorem dz_L_init_23 : decode cz_L_init 23 = .ok (.invokespecial 21, 3) := by decide +kernel
theorem dz_L_init_26 : decode cz_L_init 26 = .ok (.putfield 22, 3) := by decide +kernel
theorem dz_L_init_29 : decode cz_L_init 29 = .ok (.aload_n 0, 1) := by decide +kernel
theorem dz_L_init_30 : decode cz_L_init 30 = .ok (.bipush 100, 2) := by decide +kernel
theorem dz_L_init_32 : decode cz_L_init 32 = .ok (.newarray .int, 2) := by decide +kernel
theorem dz_L_init_34 : decode cz_L_init 34 = .ok (.putfield 26, 3) := by decide +kernel
theorem dz_L_init_37 : decode cz_L_init 37 = .ok (.aload_n 0, 1) := by decide +kernel
theorem dz_L_init_38 : decode cz_L_init 38 = .ok (.iconst 0, 1) := by decide +kernel
theorem dz_L_init_39 : decode cz_L_init 39 = .ok (.putfield 30, 3) := by decide +kernel
theorem dz_L_init_42 : decode cz_L_init 42 = .ok (.aload_n 0, 1) := by decide +kernel
theorem dz_L_init_43 : decode cz_L_init 43 = .ok (.lconst 0, 1) := by decide +kernel
theorem dz_L_init_44 : decode cz_L_init 44 = .ok (.putfield 33, 3) := by decide +kernel
theorem dz_L_init_47 : decode cz_L_init 47 = .ok (.aload_n 0, 1) := by decide +kernel
theorem dz_L_init_48 : decode cz_L_init 48 = .ok (.iconst 0, 1) := by decide +kernel
theorem dz_L_init_49 : decode cz_L_init 49 = .ok (.putfield 37, 3) := by decide +kernel
theorem dz_L_init_52 : decode cz_L_init 52 = .ok (.aload_n 0, 1) := by decide +kernel
theorem dz_L_init_53 : decode cz_L_init 53 = .ok (.iconst 0, 1) := by decide +kernel
theorem dz_L_init_54 : decode cz_L_init 54 = .ok (.putfield 40, 3) := by decide +kernel
theorem dz_L_init_57 : decode cz_L_init 57 = .ok (.aload_n 0, 1) := by decide +kernel
theorem dz_L_init_58 : decode cz_L_init 58 = .ok (.lconst 0, 1) := by decide +kernel
theorem dz_L_init_59 : decode cz_L_init 59 = .ok (.putfield 43, 3) := by decide +kernel
theorem dz_L_init_62 : decode cz_L_init 62 = .ok (.return_, 1) := by decide +kernel
theorem dz_L_box_0 : decode cz_L_box 0 = .ok (.iload_n 1, 1) := by decide +kernel
theorem dz_L_box_1 : decode cz_L_box 1 = .ok (.invokestatic 46, 3) := by decide +kernel
theorem dz_L_box_4 : decode cz_L_box 4 = .ok (.ifCond .ne 6, 3) := by decide +kernel
theorem dz_L_box_7 : decode cz_L_box 7 = .ok (.bipush (-12), 2) := by decide +kernel
theorem dz_L_box_9 : decode cz_L_box 9 = .ok (.ireturn, 1) := by decide +kernel
theorem dz_L_box_10 : decode cz_L_box 10 = .ok (.aload_n 0, 1) := by decide +kernel
theorem dz_L_box_11 : decode cz_L_box 11 = .ok (.getfield 15, 3) := by decide +kernel
theorem dz_L_box_14 : decode cz_L_box 14 = .ok (.bipush 60, 2) := by decide +kernel
theorem dz_L_box_16 : decode cz_L_box 16 = .ok (.if_icmp .lt 6, 3) := by decide +kernel
theorem dz_L_box_19 : decode cz_L_box 19 = .ok (.bipush (-14), 2) := by decide +kernel
theorem dz_L_box_21 : decode cz_L_box 21 = .ok (.ireturn, 1) := by decide +kernel
theorem dz_L_box_22 : decode cz_L_box 22 = .ok (.aload_n 0, 1) := by decide +kernel
theorem dz_L_box_23 : decode cz_L_box 23 = .ok (.getfield 11, 3) := by decide +kernel
theorem dz_L_box_26 : decode cz_L_box 26 = .ok (.aload_n 0, 1) := by decide +kernel
theorem dz_L_box_27 : decode cz_L_box 27 = .ok (.getfield 15, 3) := by decide +kernel
theorem dz_L_box_30 : decode cz_L_box 30 = .ok (.new 9, 3) := by decide +kernel
theorem dz_L_box_33 : decode cz_L_box 33 = .ok (.dup, 1) := by decide +kernel
theorem dz_L_box_34 : decode cz_L_box 34 = .ok (.iload_n 1, 1) := by decide +kernel
theorem dz_L_box_35 : decode cz_L_box 35 = .ok (.invokespecial 50, 3) := by decide +kernel
theorem dz_L_box_38 : decode cz_L_box 38 = .ok (.aastore, 1) := by decide +kernel
theorem dz_L_box_39 : decode cz_L_box 39 = .ok (.aload_n 0, 1) := by decide +kernel
theorem dz_L_box_40 : decode cz_L_box 40 = .ok (.dup, 1) := by decide +kernel
theorem dz_L_box_41 : decode cz_L_box 41 = .ok (.getfield 15, 3) := by decide +kernel
theorem dz_L_box_44 : decode cz_L_box 44 = .ok (.iconst 1, 1) := by decide +kernel
theorem dz_L_box_45 : decode cz_L_box 45 = .ok (.iadd, 1) := by decide +kernel
theorem dz_L_box_46 : decode cz_L_box 46 = .ok (.putfield 15, 3) := by decide +kernel
theorem dz_L_box_49 : decode cz_L_box 49 = .ok (.aload_n 0, 1) := by decide +kernel
theorem dz_L_box_50 : decode cz_L_box 50 = .ok (.getfield 15, 3) := by decide +kernel
theorem dz_L_box_53 : decode cz_L_box 53 = .ok (.ireturn, 1) := by decide +kernel
theorem dz_L_tape_0 : decode cz_L_tape 0 = .ok (.iload_n 1, 1) := by decide +kernel
theorem dz_L_tape_1 : decode cz_L_tape 1 = .ok (.invokestatic 53, 3) := by decide +kernel
theorem dz_L_tape_4 : decode cz_L_tape 4 = .ok (.ifCond .ne 6, 3) := by decide +kernel
theorem dz_L_tape_7 : decode cz_L_tape 7 = .ok (.bipush (-12), 2) := by decide +kernel
theorem dz_L_tape_9 : decode cz_L_tape 9 = .ok (.ireturn, 1) := by decide +kernel
theorem dz_L_tape_10 : decode cz_L_tape 10 = .ok (.aload_n 0, 1) := by decide +kernel
theorem dz_L_tape_11 : decode cz_L_tape 11 = .ok (.getfield 22, 3) := by decide +kernel
theorem dz_L_tape_14 : decode cz_L_tape 14 = .ok (.iload_n 1, 1) := by decide +kernel
theorem dz_L_tape_15 : decode cz_L_tape 15 = .ok (.invokevirtual 56, 3) := by decide +kernel
theorem dz_L_tape_18 : decode cz_L_tape 18 = .ok (.ifCond .eq 13, 3) := by decide +kernel
theorem dz_L_tape_21 : decode cz_L_tape 21 = .ok (.aload_n 0, 1) := by decide +kernel
theorem dz_L_tape_22 : decode cz_L_tape 22 = .ok (.getfield 22, 3) := by decide +kernel
theorem dz_L_tape_25 : decode cz_L_tape 25 = .ok (.invokevirtual 59, 3) := by decide +kernel
theorem dz_L_tape_28 : decode cz_L_tape 28 = .ok (.goto 5, 3) := by decide +kernel
theorem dz_L_tape_31 : decode cz_L_tape 31 = .ok (.bipush (-14), 2) := by decide +kernel
theorem dz_L_tape_33 : decode cz_L_tape 33 = .ok (.ireturn, 1) := by decide +kernel
theorem dz_L_reserve_0 : decode cz_L_reserve 0 = .ok (.iload_n 1, 1) := by decide +kernel
theorem dz_L_reserve_1 : decode cz_L_reserve 1 = .ok (.invokestatic 46, 3) := by decide +kernel
theorem dz_L_reserve_4 : decode cz_L_reserve 4 = .ok (.ifCond .eq 20, 3) := by decide +kernel
theorem dz_L_reserve_7 : decode cz_L_reserve 7 = .ok (.lload_n 2, 1) := by decide +kernel
theorem dz_L_reserve_8 : decode cz_L_reserve 8 = .ok (.aload_n 0, 1) := by decide +kernel
theorem dz_L_reserve_9 : decode cz_L_reserve 9 = .ok (.getfield 33, 3) := by decide +kernel
theorem dz_L_reserve_12 : decode cz_L_reserve 12 = .ok (.lcmp, 1) := by decide +kernel
theorem dz_L_reserve_13 : decode cz_L_reserve 13 = .ok (.ifCond .le 11, 3) := by decide +kernel
theorem dz_L_reserve_16 : decode cz_L_reserve 16 = .ok (.lload_n 2, 1) := by decide +kernel
theorem dz_L_reserve_17 : decode cz_L_reserve 17 = .ok (.ldc2_w 63, 3) := by decide +kernel
theorem dz_L_reserve_20 : decode cz_L_reserve 20 = .ok (.lcmp, 1) := by decide +kernel
theorem dz_L_reserve_21 : decode cz_L_reserve 21 = .ok (.ifCond .le 6, 3) := by decide +kernel
theorem dz_L_reserve_24 : decode cz_L_reserve 24 = .ok (.bipush (-12), 2) := by decide +kernel
theorem dz_L_reserve_26 : decode cz_L_reserve 26 = .ok (.ireturn, 1) := by decide +kernel
theorem dz_L_reserve_27 : decode cz_L_reserve 27 = .ok (.aload_n 0, 1) := by decide +kernel
theorem dz_L_reserve_28 : decode cz_L_reserve 28 = .ok (.iload_n 1, 1) := by decide +kernel
theorem dz_L_reserve_29 : decode cz_L_reserve 29 = .ok (.invokevirtual 65, 3) := by decide +kernel
theorem dz_L_reserve_32 : decode cz_L_reserve 32 = .ok (.istore 4, 2) := by decide +kernel
theorem dz_L_reserve_34 : decode cz_L_reserve 34 = .ok (.aload_n 0, 1) := by decide +kernel
theorem dz_L_reserve_35 : decode cz_L_reserve 35 = .ok (.iload 4, 2) := by decide +kernel
theorem dz_L_reserve_37 : decode cz_L_reserve 37 = .ok (.invokevirtual 69, 3) := by decide +kernel
theorem dz_L_reserve_40 : decode cz_L_reserve 40 = .ok (.astore 5, 2) := by decide +kernel
theorem dz_L_reserve_42 : decode cz_L_reserve 42 = .ok (.aload 5, 2) := by decide +kernel
theorem dz_L_reserve_44 : decode cz_L_reserve 44 = .ok (.ifnonnull 5, 3) := by decide +kernel
theorem dz_L_reserve_47 : decode cz_L_reserve 47 = .ok (.iconst 0, 1) := by decide +kernel
theorem dz_L_reserve_48 : decode cz_L_reserve 48 = .ok (.ireturn, 1) := by decide +kernel
theorem dz_L_reserve_49 : decode cz_L_reserve 49 = .ok (.aload 5, 2) := by decide +kernel
theorem dz_L_reserve_51 : decode cz_L_reserve 51 = .ok (.lload_n 2, 1) := by decide +kernel
theorem dz_L_reserve_52 : decode cz_L_reserve 52 = .ok (.putfield 73, 3) := by decide +kernel
theorem dz_L_reserve_55 : decode cz_L_reserve 55 = .ok (.iload 4, 2) := by decide +kernel
theorem dz_L_reserve_57 : decode cz_L_reserve 57 = .ok (.ireturn, 1) := by decide +kernel
theorem dz_L_put_0 : decode cz_L_put 0 = .ok (.aload_n 0, 1) := by decide +kernel
theorem dz_L_put_1 : decode cz_L_put 1 = .ok (.iload_n 1, 1) := by decide +kernel
theorem dz_L_put_2 : decode cz_L_put 2 = .ok (.invokevirtual 69, 3) := by decide +kernel
theorem dz_L_put_5 : decode cz_L_put 5 = .ok (.astore 5, 2) := by decide +kernel
theorem dz_L_put_7 : decode cz_L_put 7 = .ok (.aload 5, 2) := by decide +kernel
theorem dz_L_put_9 : decode cz_L_put 9 = .ok (.ifnonnull 6, 3) := by decide +kernel
theorem dz_L_put_12 : decode cz_L_put 12 = .ok (.bipush (-11), 2) := by decide +kernel
theorem dz_L_put_14 : decode cz_L_put 14 = .ok (.ireturn, 1) := by decide +kernel
theorem dz_L_put_15 : decode cz_L_put 15 = .ok (.iload_n 2, 1) := by decide +kernel
theorem dz_L_put_16 : decode cz_L_put 16 = .ok (.invokestatic 76, 3) := by decide +kernel
theorem dz_L_put_19 : decode cz_L_put 19 = .ok (.ifCond .eq 11, 3) := by decide +kernel
theorem dz_L_put_22 : decode cz_L_put 22 = .ok (.aload_n 0, 1) := by decide +kernel
theorem dz_L_put_23 : decode cz_L_put 23 = .ok (.lload_n 3, 1) := by decide +kernel
theorem dz_L_put_24 : decode cz_L_put 24 = .ok (.invokevirtual 79, 3) := by decide +kernel
theorem dz_L_put_27 : decode cz_L_put 27 = .ok (.ifCond .ne 6, 3) := by decide +kernel
theorem dz_L_put_30 : decode cz_L_put 30 = .ok (.bipush (-12), 2) := by decide +kernel
theorem dz_L_put_32 : decode cz_L_put 32 = .ok (.ireturn, 1) := by decide +kernel
theorem dz_L_put_33 : decode cz_L_put 33 = .ok (.aload_n 0, 1) := by decide +kernel
theorem dz_L_put_34 : decode cz_L_put 34 = .ok (.lload_n 3, 1) := by decide +kernel
theorem dz_L_put_35 : decode cz_L_put 35 = .ok (.invokevirtual 83, 3) := by decide +kernel
theorem dz_L_put_38 : decode cz_L_put 38 = .ok (.aload 5, 2) := by decide +kernel
theorem dz_L_put_40 : decode cz_L_put 40 = .ok (.getfield 87, 3) := by decide +kernel
theorem dz_L_put_43 : decode cz_L_put 43 = .ok (.iconst 1, 1) := by decide +kernel
theorem dz_L_put_44 : decode cz_L_put 44 = .ok (.if_icmp .ne 19, 3) := by decide +kernel
theorem dz_L_put_47 : decode cz_L_put 47 = .ok (.aload 5, 2) := by decide +kernel
theorem dz_L_put_49 : decode cz_L_put 49 = .ok (.invokevirtual 90, 3) := by decide +kernel
theorem dz_L_put_52 : decode cz_L_put 52 = .ok (.ifCond .eq 11, 3) := by decide +kernel
theorem dz_L_put_55 : decode cz_L_put 55 = .ok (.aload_n 0, 1) := by decide +kernel
theorem dz_L_put_56 : decode cz_L_put 56 = .ok (.iload_n 2, 1) := by decide +kernel
theorem dz_L_put_57 : decode cz_L_put 57 = .ok (.invokevirtual 94, 3) := by decide +kernel
theorem dz_L_put_60 : decode cz_L_put 60 = .ok (.ifnull 5, 3) := by decide +kernel
theorem dz_L_put_63 : decode cz_L_put 63 = .ok (.iconst 0, 1) := by decide +kernel
theorem dz_L_put_64 : decode cz_L_put 64 = .ok (.ireturn, 1) := by decide +kernel
theorem dz_L_put_65 : decode cz_L_put 65 = .ok (.aload 5, 2) := by decide +kernel
theorem dz_L_put_67 : decode cz_L_put 67 = .ok (.iload_n 2, 1) := by decide +kernel
theorem dz_L_put_68 : decode cz_L_put 68 = .ok (.invokevirtual 97, 3) := by decide +kernel
theorem dz_L_put_71 : decode cz_L_put 71 = .ok (.iconst 1, 1) := by decide +kernel
theorem dz_L_put_72 : decode cz_L_put 72 = .ok (.ireturn, 1) := by decide +kernel
theorem dz_L_close_0 : decode cz_L_close 0 = .ok (.aload_n 0, 1) := by decide +kernel
theorem dz_L_close_1 : decode cz_L_close 1 = .ok (.iload_n 1, 1) := by decide +kernel
theorem dz_L_close_2 : decode cz_L_close 2 = .ok (.invokevirtual 69, 3) := by decide +kernel
theorem dz_L_close_5 : decode cz_L_close 5 = .ok (.astore 4, 2) := by decide +kernel
theorem dz_L_close_7 : decode cz_L_close 7 = .ok (.aload 4, 2) := by decide +kernel
theorem dz_L_close_9 : decode cz_L_close 9 = .ok (.ifnonnull 6, 3) := by decide +kernel
theorem dz_L_close_12 : decode cz_L_close 12 = .ok (.bipush (-11), 2) := by decide +kernel
theorem dz_L_close_14 : decode cz_L_close 14 = .ok (.ireturn, 1) := by decide +kernel
theorem dz_L_close_15 : decode cz_L_close 15 = .ok (.aload_n 0, 1) := by decide +kernel
theorem dz_L_close_16 : decode cz_L_close 16 = .ok (.lload_n 2, 1) := by decide +kernel
theorem dz_L_close_17 : decode cz_L_close 17 = .ok (.invokevirtual 79, 3) := by decide +kernel
theorem dz_L_close_20 : decode cz_L_close 20 = .ok (.ifCond .ne 6, 3) := by decide +kernel
theorem dz_L_close_23 : decode cz_L_close 23 = .ok (.bipush (-12), 2) := by decide +kernel
theorem dz_L_close_25 : decode cz_L_close 25 = .ok (.ireturn, 1) := by decide +kernel
theorem dz_L_close_26 : decode cz_L_close 26 = .ok (.aload_n 0, 1) := by decide +kernel
theorem dz_L_close_27 : decode cz_L_close 27 = .ok (.lload_n 2, 1) := by decide +kernel
theorem dz_L_close_28 : decode cz_L_close 28 = .ok (.invokevirtual 83, 3) := by decide +kernel
theorem dz_L_close_31 : decode cz_L_close 31 = .ok (.aload 4, 2) := by decide +kernel
theorem dz_L_close_33 : decode cz_L_close 33 = .ok (.getfield 87, 3) := by decide +kernel
theorem dz_L_close_36 : decode cz_L_close 36 = .ok (.iconst 1, 1) := by decide +kernel
theorem dz_L_close_37 : decode cz_L_close 37 = .ok (.if_icmp .eq 6, 3) := by decide +kernel
theorem dz_L_close_40 : decode cz_L_close 40 = .ok (.bipush (-13), 2) := by decide +kernel
theorem dz_L_close_42 : decode cz_L_close 42 = .ok (.ireturn, 1) := by decide +kernel
theorem dz_L_close_43 : decode cz_L_close 43 = .ok (.aload 4, 2) := by decide +kernel
theorem dz_L_close_45 : decode cz_L_close 45 = .ok (.invokevirtual 100, 3) := by decide +kernel
theorem dz_L_close_48 : decode cz_L_close 48 = .ok (.ifCond .ne 11, 3) := by decide +kernel
theorem dz_L_close_51 : decode cz_L_close 51 = .ok (.aload 4, 2) := by decide +kernel
theorem dz_L_close_53 : decode cz_L_close 53 = .ok (.iconst 0, 1) := by decide +kernel
theorem dz_L_close_54 : decode cz_L_close 54 = .ok (.putfield 87, 3) := by decide +kernel
theorem dz_L_close_57 : decode cz_L_close 57 = .ok (.iconst (-1), 1) := by decide +kernel
theorem dz_L_close_58 : decode cz_L_close 58 = .ok (.ireturn, 1) := by decide +kernel
theorem dz_L_close_59 : decode cz_L_close 59 = .ok (.aload_n 0, 1) := by decide +kernel
theorem dz_L_close_60 : decode cz_L_close 60 = .ok (.invokevirtual 103, 3) := by decide +kernel
theorem dz_L_close_63 : decode cz_L_close 63 = .ok (.istore 5, 2) := by decide +kernel
theorem dz_L_close_65 : decode cz_L_close 65 = .ok (.iload 5, 2) := by decide +kernel
theorem dz_L_close_67 : decode cz_L_close 67 = .ok (.iconst (-1), 1) := by decide +kernel
theorem dz_L_close_68 : decode cz_L_close 68 = .ok (.if_icmp .ne 6, 3) := by decide +kernel
theorem dz_L_close_71 : decode cz_L_close 71 = .ok (.bipush (-14), 2) := by decide +kernel
theorem dz_L_close_73 : decode cz_L_close 73 = .ok (.ireturn, 1) := by decide +kernel
theorem dz_L_close_74 : decode cz_L_close 74 = .ok (.aload 4, 2) := by decide +kernel
theorem dz_L_close_76 : decode cz_L_close 76 = .ok (.iload 5, 2) := by decide +kernel
theorem dz_L_close_78 : decode cz_L_close 78 = .ok (.lload_n 2, 1) := by decide +kernel
theorem dz_L_close_79 : decode cz_L_close 79 = .ok (.invokevirtual 106, 3) := by decide +kernel
theorem dz_L_close_82 : decode cz_L_close 82 = .ok (.aload 4, 2) := by decide +kernel
theorem dz_L_close_84 : decode cz_L_close 84 = .ok (.iconst 0, 1) := by decide +kernel
theorem dz_L_close_85 : decode cz_L_close 85 = .ok (.putfield 87, 3) := by decide +kernel
theorem dz_L_close_88 : decode cz_L_close 88 = .ok (.iload 5, 2) := by decide +kernel
theorem dz_L_close_90 : decode cz_L_close 90 = .ok (.ireturn, 1) := by decide +kernel
theorem dz_L_type_0 : decode cz_L_type 0 = .ok (.iload_n 1, 1) := by decide +kernel
theorem dz_L_type_1 : decode cz_L_type 1 = .ok (.invokestatic 53, 3) := by decide +kernel
theorem dz_L_type_4 : decode cz_L_type 4 = .ok (.ifCond .eq 11, 3) := by decide +kernel
theorem dz_L_type_7 : decode cz_L_type 7 = .ok (.aload_n 0, 1) := by decide +kernel
theorem dz_L_type_8 : decode cz_L_type 8 = .ok (.lload_n 2, 1) := by decide +kernel
theorem dz_L_type_9 : decode cz_L_type 9 = .ok (.invokevirtual 79, 3) := by decide +kernel
theorem dz_L_type_12 : decode cz_L_type 12 = .ok (.ifCond .ne 6, 3) := by decide +kernel
theorem dz_L_type_15 : decode cz_L_type 15 = .ok (.bipush (-12), 2) := by decide +kernel
theorem dz_L_type_17 : decode cz_L_type 17 = .ok (.ireturn, 1) := by decide +kernel
theorem dz_L_type_18 : decode cz_L_type 18 = .ok (.aload_n 0, 1) := by decide +kernel
theorem dz_L_type_19 : decode cz_L_type 19 = .ok (.lload_n 2, 1) := by decide +kernel
theorem dz_L_type_20 : decode cz_L_type 20 = .ok (.invokevirtual 83, 3) := by decide +kernel
theorem dz_L_type_23 : decode cz_L_type 23 = .ok (.lload_n 2, 1) := by decide +kernel
theorem dz_L_type_24 : decode cz_L_type 24 = .ok (.aload_n 0, 1) := by decide +kernel
theorem dz_L_type_25 : decode cz_L_type 25 = .ok (.getfield 43, 3) := by decide +kernel
theorem dz_L_type_28 : decode cz_L_type 28 = .ok (.lcmp, 1) := by decide +kernel
theorem dz_L_type_29 : decode cz_L_type 29 = .ok (.ifCond .ge 5, 3) := by decide +kernel
theorem dz_L_type_32 : decode cz_L_type 32 = .ok (.iconst (-1), 1) := by decide +kernel
theorem dz_L_type_33 : decode cz_L_type 33 = .ok (.ireturn, 1) := by decide +kernel
theorem dz_L_type_34 : decode cz_L_type 34 = .ok (.aload_n 0, 1) := by decide +kernel
theorem dz_L_type_35 : decode cz_L_type 35 = .ok (.iload_n 1, 1) := by decide +kernel
theorem dz_L_type_36 : decode cz_L_type 36 = .ok (.invokevirtual 110, 3) := by decide +kernel
theorem dz_L_type_39 : decode cz_L_type 39 = .ok (.istore 4, 2) := by decide +kernel
theorem dz_L_type_41 : decode cz_L_type 41 = .ok (.aload_n 0, 1) := by decide +kernel
theorem dz_L_type_42 : decode cz_L_type 42 = .ok (.iload 4, 2) := by decide +kernel
theorem dz_L_type_44 : decode cz_L_type 44 = .ok (.invokevirtual 69, 3) := by decide +kernel
theorem dz_L_type_47 : decode cz_L_type 47 = .ok (.astore 5, 2) := by decide +kernel
theorem dz_L_type_49 : decode cz_L_type 49 = .ok (.aload 5, 2) := by decide +kernel
theorem dz_L_type_51 : decode cz_L_type 51 = .ok (.ifnull 11, 3) := by decide +kernel
theorem dz_L_type_54 : decode cz_L_type 54 = .ok (.aload 5, 2) := by decide +kernel
theorem dz_L_type_56 : decode cz_L_type 56 = .ok (.getfield 87, 3) := by decide +kernel
theorem dz_L_type_59 : decode cz_L_type 59 = .ok (.ifCond .eq 10, 3) := by decide +kernel
theorem dz_L_type_62 : decode cz_L_type 62 = .ok (.aload_n 0, 1) := by decide +kernel
theorem dz_L_type_63 : decode cz_L_type 63 = .ok (.lload_n 2, 1) := by decide +kernel
theorem dz_L_type_64 : decode cz_L_type 64 = .ok (.invokevirtual 113, 3) := by decide +kernel
theorem dz_L_type_67 : decode cz_L_type 67 = .ok (.iconst 0, 1) := by decide +kernel
theorem dz_L_type_68 : decode cz_L_type 68 = .ok (.ireturn, 1) := by decide +kernel
theorem dz_L_type_69 : decode cz_L_type 69 = .ok (.aload_n 0, 1) := by decide +kernel
theorem dz_L_type_70 : decode cz_L_type 70 = .ok (.iconst 0, 1) := by decide +kernel
theorem dz_L_type_71 : decode cz_L_type 71 = .ok (.putfield 40, 3) := by decide +kernel
theorem dz_L_type_74 : decode cz_L_type 74 = .ok (.aload 5, 2) := by decide +kernel
theorem dz_L_type_76 : decode cz_L_type 76 = .ok (.invokevirtual 116, 3) := by decide +kernel
theorem dz_L_type_79 : decode cz_L_type 79 = .ok (.aload 5, 2) := by decide +kernel
theorem dz_L_type_81 : decode cz_L_type 81 = .ok (.iconst 1, 1) := by decide +kernel
theorem dz_L_type_82 : decode cz_L_type 82 = .ok (.lload_n 2, 1) := by decide +kernel
theorem dz_L_type_83 : decode cz_L_type 83 = .ok (.invokevirtual 119, 3) := by decide +kernel
theorem dz_L_type_86 : decode cz_L_type 86 = .ok (.iload 4, 2) := by decide +kernel
theorem dz_L_type_88 : decode cz_L_type 88 = .ok (.ireturn, 1) := by decide +kernel
theorem dz_L_code_0 : decode cz_L_code 0 = .ok (.iload_n 1, 1) := by decide +kernel
theorem dz_L_code_1 : decode cz_L_code 1 = .ok (.invokestatic 76, 3) := by decide +kernel
theorem dz_L_code_4 : decode cz_L_code 4 = .ok (.ifCond .ne 6, 3) := by decide +kernel
theorem dz_L_code_7 : decode cz_L_code 7 = .ok (.bipush (-12), 2) := by decide +kernel
theorem dz_L_code_9 : decode cz_L_code 9 = .ok (.ireturn, 1) := by decide +kernel
theorem dz_L_code_10 : decode cz_L_code 10 = .ok (.aload_n 0, 1) := by decide +kernel
theorem dz_L_code_11 : decode cz_L_code 11 = .ok (.iload_n 1, 1) := by decide +kernel
theorem dz_L_code_12 : decode cz_L_code 12 = .ok (.invokevirtual 94, 3) := by decide +kernel
theorem dz_L_code_15 : decode cz_L_code 15 = .ok (.astore_n 2, 1) := by decide +kernel
theorem dz_L_code_16 : decode cz_L_code 16 = .ok (.aload_n 2, 1) := by decide +kernel
theorem dz_L_code_17 : decode cz_L_code 17 = .ok (.ifnonnull 7, 3) := by decide +kernel
theorem dz_L_code_20 : decode cz_L_code 20 = .ok (.iconst (-1), 1) := by decide +kernel
theorem dz_L_code_21 : decode cz_L_code 21 = .ok (.goto 7, 3) := by decide +kernel
theorem dz_L_code_24 : decode cz_L_code 24 = .ok (.aload_n 2, 1) := by decide +kernel
theorem dz_L_code_25 : decode cz_L_code 25 = .ok (.getfield 122, 3) := by decide +kernel
theorem dz_L_code_28 : decode cz_L_code 28 = .ok (.ireturn, 1) := by decide +kernel
theorem dz_L_door_0 : decode cz_L_door 0 = .ok (.aload_n 0, 1) := by decide +kernel
theorem dz_L_door_1 : decode cz_L_door 1 = .ok (.iload_n 1, 1) := by decide +kernel
theorem dz_L_door_2 : decode cz_L_door 2 = .ok (.invokevirtual 69, 3) := by decide +kernel
theorem dz_L_door_5 : decode cz_L_door 5 = .ok (.astore 5, 2) := by decide +kernel
theorem dz_L_door_7 : decode cz_L_door 7 = .ok (.aload 5, 2) := by decide +kernel
theorem dz_L_door_9 : decode cz_L_door 9 = .ok (.ifnonnull 6, 3) := by decide +kernel
theorem dz_L_door_12 : decode cz_L_door 12 = .ok (.bipush (-11), 2) := by decide +kernel
theorem dz_L_door_14 : decode cz_L_door 14 = .ok (.ireturn, 1) := by decide +kernel
theorem dz_L_door_15 : decode cz_L_door 15 = .ok (.iload_n 2, 1) := by decide +kernel
theorem dz_L_door_16 : decode cz_L_door 16 = .ok (.invokestatic 125, 3) := by decide +kernel
theorem dz_L_door_19 : decode cz_L_door 19 = .ok (.ifCond .eq 11, 3) := by decide +kernel
theorem dz_L_door_22 : decode cz_L_door 22 = .ok (.aload_n 0, 1) := by decide +kernel
theorem dz_L_door_23 : decode cz_L_door 23 = .ok (.lload_n 3, 1) := by decide +kernel
theorem dz_L_door_24 : decode cz_L_door 24 = .ok (.invokevirtual 79, 3) := by decide +kernel
theorem dz_L_door_27 : decode cz_L_door 27 = .ok (.ifCond .ne 6, 3) := by decide +kernel
theorem dz_L_door_30 : decode cz_L_door 30 = .ok (.bipush (-12), 2) := by decide +kernel
theorem dz_L_door_32 : decode cz_L_door 32 = .ok (.ireturn, 1) := by decide +kernel
theorem dz_L_door_33 : decode cz_L_door 33 = .ok (.aload_n 0, 1) := by decide +kernel
theorem dz_L_door_34 : decode cz_L_door 34 = .ok (.lload_n 3, 1) := by decide +kernel
theorem dz_L_door_35 : decode cz_L_door 35 = .ok (.invokevirtual 83, 3) := by decide +kernel
theorem dz_L_door_38 : decode cz_L_door 38 = .ok (.aload 5, 2) := by decide +kernel
theorem dz_L_door_40 : decode cz_L_door 40 = .ok (.iload_n 2, 1) := by decide +kernel
theorem dz_L_door_41 : decode cz_L_door 41 = .ok (.invokevirtual 128, 3) := by decide +kernel
theorem dz_L_door_44 : decode cz_L_door 44 = .ok (.ifCond .ne 6, 3) := by decide +kernel
theorem dz_L_door_47 : decode cz_L_door 47 = .ok (.bipush (-13), 2) := by decide +kernel
theorem dz_L_door_49 : decode cz_L_door 49 = .ok (.ireturn, 1) := by decide +kernel
theorem dz_L_door_50 : decode cz_L_door 50 = .ok (.aload 5, 2) := by decide +kernel
theorem dz_L_door_52 : decode cz_L_door 52 = .ok (.iload_n 2, 1) := by decide +kernel
theorem dz_L_door_53 : decode cz_L_door 53 = .ok (.lload_n 3, 1) := by decide +kernel
theorem dz_L_door_54 : decode cz_L_door 54 = .ok (.invokevirtual 131, 3) := by decide +kernel
theorem dz_L_door_57 : decode cz_L_door 57 = .ok (.aload 5, 2) := by decide +kernel
theorem dz_L_door_59 : decode cz_L_door 59 = .ok (.getfield 87, 3) := by decide +kernel
theorem dz_L_door_62 : decode cz_L_door 62 = .ok (.ireturn, 1) := by decide +kernel
theorem dz_L_tick_0 : decode cz_L_tick 0 = .ok (.aload_n 0, 1) := by decide +kernel
theorem dz_L_tick_1 : decode cz_L_tick 1 = .ok (.lload_n 1, 1) := by decide +kernel
theorem dz_L_tick_2 : decode cz_L_tick 2 = .ok (.invokevirtual 79, 3) := by decide +kernel
theorem dz_L_tick_5 : decode cz_L_tick 5 = .ok (.ifCond .ne 6, 3) := by decide +kernel
theorem dz_L_tick_8 : decode cz_L_tick 8 = .ok (.bipush (-12), 2) := by decide +kernel
theorem dz_L_tick_10 : decode cz_L_tick 10 = .ok (.ireturn, 1) := by decide +kernel
theorem dz_L_tick_11 : decode cz_L_tick 11 = .ok (.aload_n 0, 1) := by decide +kernel
theorem dz_L_tick_12 : decode cz_L_tick 12 = .ok (.lload_n 1, 1) := by decide +kernel
theorem dz_L_tick_13 : decode cz_L_tick 13 = .ok (.invokevirtual 83, 3) := by decide +kernel
theorem dz_L_tick_16 : decode cz_L_tick 16 = .ok (.aload_n 0, 1) := by decide +kernel
theorem dz_L_tick_17 : decode cz_L_tick 17 = .ok (.getfield 37, 3) := by decide +kernel
theorem dz_L_tick_20 : decode cz_L_tick 20 = .ok (.istore_n 3, 1) := by decide +kernel
theorem dz_L_tick_21 : decode cz_L_tick 21 = .ok (.aload_n 0, 1) := by decide +kernel
theorem dz_L_tick_22 : decode cz_L_tick 22 = .ok (.iconst 0, 1) := by decide +kernel
theorem dz_L_tick_23 : decode cz_L_tick 23 = .ok (.putfield 37, 3) := by decide +kernel
theorem dz_L_tick_26 : decode cz_L_tick 26 = .ok (.iload_n 3, 1) := by decide +kernel
theorem dz_L_tick_27 : decode cz_L_tick 27 = .ok (.ireturn, 1) := by decide +kernel
theorem dz_L_take_0 : decode cz_L_take 0 = .ok (.aload_n 0, 1) := by decide +kernel
theorem dz_L_take_1 : decode cz_L_take 1 = .ok (.iload_n 1, 1) := by decide +kernel
theorem dz_L_take_2 : decode cz_L_take 2 = .ok (.invokevirtual 69, 3) := by decide +kernel
theorem dz_L_take_5 : decode cz_L_take 5 = .ok (.astore_n 3, 1) := by decide +kernel
theorem dz_L_take_6 : decode cz_L_take 6 = .ok (.aload_n 3, 1) := by decide +kernel
theorem dz_L_take_7 : decode cz_L_take 7 = .ok (.ifnonnull 6, 3) := by decide +kernel
theorem dz_L_take_10 : decode cz_L_take 10 = .ok (.bipush (-11), 2) := by decide +kernel
theorem dz_L_take_12 : decode cz_L_take 12 = .ok (.ireturn, 1) := by decide +kernel
theorem dz_L_take_13 : decode cz_L_take 13 = .ok (.iload_n 2, 1) := by decide +kernel
theorem dz_L_take_14 : decode cz_L_take 14 = .ok (.ifCond .lt 9, 3) := by decide +kernel
theorem dz_L_take_17 : decode cz_L_take 17 = .ok (.iload_n 2, 1) := by decide +kernel
theorem dz_L_take_18 : decode cz_L_take 18 = .ok (.bipush 9, 2) := by decide +kernel
theorem dz_L_take_20 : decode cz_L_take 20 = .ok (.if_icmp .le 6, 3) := by decide +kernel
theorem dz_L_take_23 : decode cz_L_take 23 = .ok (.bipush (-12), 2) := by decide +kernel
theorem dz_L_take_25 : decode cz_L_take 25 = .ok (.ireturn, 1) := by decide +kernel
theorem dz_L_take_26 : decode cz_L_take 26 = .ok (.aload_n 3, 1) := by decide +kernel
theorem dz_L_take_27 : decode cz_L_take 27 = .ok (.invokevirtual 134, 3) := by decide +kernel
theorem dz_L_take_30 : decode cz_L_take 30 = .ok (.ifCond .ne 5, 3) := by decide +kernel
theorem dz_L_take_33 : decode cz_L_take 33 = .ok (.iconst 0, 1) := by decide +kernel
theorem dz_L_take_34 : decode cz_L_take 34 = .ok (.ireturn, 1) := by decide +kernel
theorem dz_L_take_35 : decode cz_L_take 35 = .ok (.aload_n 3, 1) := by decide +kernel
theorem dz_L_take_36 : decode cz_L_take 36 = .ok (.getfield 137, 3) := by decide +kernel
theorem dz_L_take_39 : decode cz_L_take 39 = .ok (.istore 4, 2) := by decide +kernel
theorem dz_L_take_41 : decode cz_L_take 41 = .ok (.aload_n 3, 1) := by decide +kernel
theorem dz_L_take_42 : decode cz_L_take 42 = .ok (.invokevirtual 116, 3) := by decide +kernel
theorem dz_L_take_45 : decode cz_L_take 45 = .ok (.iload 4, 2) := by decide +kernel
theorem dz_L_take_47 : decode cz_L_take 47 = .ok (.ireturn, 1) := by decide +kernel
theorem dz_L_item_0 : decode cz_L_item 0 = .ok (.aload_n 0, 1) := by decide +kernel
theorem dz_L_item_1 : decode cz_L_item 1 = .ok (.iload_n 1, 1) := by decide +kernel
theorem dz_L_item_2 : decode cz_L_item 2 = .ok (.invokevirtual 69, 3) := by decide +kernel
theorem dz_L_item_5 : decode cz_L_item 5 = .ok (.astore_n 2, 1) := by decide +kernel
theorem dz_L_item_6 : decode cz_L_item 6 = .ok (.aload_n 2, 1) := by decide +kernel
theorem dz_L_item_7 : decode cz_L_item 7 = .ok (.ifnonnull 6, 3) := by decide +kernel
theorem dz_L_item_10 : decode cz_L_item 10 = .ok (.bipush (-11), 2) := by decide +kernel
theorem dz_L_item_12 : decode cz_L_item 12 = .ok (.ireturn, 1) := by decide +kernel
theorem dz_L_item_13 : decode cz_L_item 13 = .ok (.aload_n 2, 1) := by decide +kernel
theorem dz_L_item_14 : decode cz_L_item 14 = .ok (.getfield 140, 3) := by decide +kernel
theorem dz_L_item_17 : decode cz_L_item 17 = .ok (.ifCond .eq 11, 3) := by decide +kernel
theorem dz_L_item_20 : decode cz_L_item 20 = .ok (.aload_n 2, 1) := by decide +kernel
theorem dz_L_item_21 : decode cz_L_item 21 = .ok (.getfield 137, 3) := by decide +kernel
theorem dz_L_item_24 : decode cz_L_item 24 = .ok (.ineg, 1) := by decide +kernel
theorem dz_L_item_25 : decode cz_L_item 25 = .ok (.goto 7, 3) := by decide +kernel
theorem dz_L_item_28 : decode cz_L_item 28 = .ok (.aload_n 2, 1) := by decide +kernel
theorem dz_L_item_29 : decode cz_L_item 29 = .ok (.getfield 137, 3) := by decide +kernel
theorem dz_L_item_32 : decode cz_L_item 32 = .ok (.ireturn, 1) := by decide +kernel
theorem dz_L_freed_0 : decode cz_L_freed 0 = .ok (.iload_n 1, 1) := by decide +kernel
theorem dz_L_freed_1 : decode cz_L_freed 1 = .ok (.ifCond .lt 26, 3) := by decide +kernel
theorem dz_L_freed_4 : decode cz_L_freed 4 = .ok (.iload_n 1, 1) := by decide +kernel
theorem dz_L_freed_5 : decode cz_L_freed 5 = .ok (.aload_n 0, 1) := by decide +kernel
theorem dz_L_freed_6 : decode cz_L_freed 6 = .ok (.getfield 30, 3) := by decide +kernel
theorem dz_L_freed_9 : decode cz_L_freed 9 = .ok (.if_icmp .ge 18, 3) := by decide +kernel
theorem dz_L_freed_12 : decode cz_L_freed 12 = .ok (.iload_n 1, 1) := by decide +kernel
theorem dz_L_freed_13 : decode cz_L_freed 13 = .ok (.bipush 100, 2) := by decide +kernel
theorem dz_L_freed_15 : decode cz_L_freed 15 = .ok (.if_icmp .ge 12, 3) := by decide +kernel
theorem dz_L_freed_18 : decode cz_L_freed 18 = .ok (.aload_n 0, 1) := by decide +kernel
theorem dz_L_freed_19 : decode cz_L_freed 19 = .ok (.getfield 26, 3) := by decide +kernel
theorem dz_L_freed_22 : decode cz_L_freed 22 = .ok (.iload_n 1, 1) := by decide +kernel
theorem dz_L_freed_23 : decode cz_L_freed 23 = .ok (.iaload, 1) := by decide +kernel
theorem dz_L_freed_24 : decode cz_L_freed 24 = .ok (.goto 4, 3) := by decide +kernel
theorem dz_L_freed_27 : decode cz_L_freed 27 = .ok (.iconst 0, 1) := by decide +kernel
theorem dz_L_freed_28 : decode cz_L_freed 28 = .ok (.ireturn, 1) := by decide +kernel
theorem dz_L_isSize_0 : decode cz_L_isSize 0 = .ok (.iload_n 0, 1) := by decide +kernel
theorem dz_L_isSize_1 : decode cz_L_isSize 1 = .ok (.iconst 1, 1) := by decide +kernel
theorem dz_L_isSize_2 : decode cz_L_isSize 2 = .ok (.if_icmp .lt 12, 3) := by decide +kernel
theorem dz_L_isSize_5 : decode cz_L_isSize 5 = .ok (.iload_n 0, 1) := by decide +kernel
theorem dz_L_isSize_6 : decode cz_L_isSize 6 = .ok (.iconst 5, 1) := by decide +kernel
theorem dz_L_isSize_7 : decode cz_L_isSize 7 = .ok (.if_icmp .gt 7, 3) := by decide +kernel
theorem dz_L_isSize_10 : decode cz_L_isSize 10 = .ok (.iconst 1, 1) := by decide +kernel
theorem dz_L_isSize_11 : decode cz_L_isSize 11 = .ok (.goto 4, 3) := by decide +kernel
theorem dz_L_isSize_14 : decode cz_L_isSize 14 = .ok (.iconst 0, 1) := by decide +kernel
theorem dz_L_isSize_15 : decode cz_L_isSize 15 = .ok (.ireturn, 1) := by decide +kernel
theorem dz_L_isItem_0 : decode cz_L_isItem 0 = .ok (.iload_n 0, 1) := by decide +kernel
theorem dz_L_isItem_1 : decode cz_L_isItem 1 = .ok (.iconst 1, 1) := by decide +kernel
theorem dz_L_isItem_2 : decode cz_L_isItem 2 = .ok (.if_icmp .lt 14, 3) := by decide +kernel
theorem dz_L_isItem_5 : decode cz_L_isItem 5 = .ok (.iload_n 0, 1) := by decide +kernel
theorem dz_L_isItem_6 : decode cz_L_isItem 6 = .ok (.sipush 9999, 3) := by decide +kernel
theorem dz_L_isItem_9 : decode cz_L_isItem 9 = .ok (.if_icmp .gt 7, 3) := by decide +kernel
theorem dz_L_isItem_12 : decode cz_L_isItem 12 = .ok (.iconst 1, 1) := by decide +kernel
theorem dz_L_isItem_13 : decode cz_L_isItem 13 = .ok (.goto 4, 3) := by decide +kernel
theorem dz_L_isItem_16 : decode cz_L_isItem 16 = .ok (.iconst 0, 1) := by decide +kernel
theorem dz_L_isItem_17 : decode cz_L_isItem 17 = .ok (.ireturn, 1) := by decide +kernel
theorem dz_L_isCode_0 : decode cz_L_isCode 0 = .ok (.iload_n 0, 1) := by decide +kernel
theorem dz_L_isCode_1 : decode cz_L_isCode 1 = .ok (.ifCond .lt 13, 3) := by decide +kernel
theorem dz_L_isCode_4 : decode cz_L_isCode 4 = .ok (.iload_n 0, 1) := by decide +kernel
theorem dz_L_isCode_5 : decode cz_L_isCode 5 = .ok (.ldc 144, 2) := by decide +kernel
theorem dz_L_isCode_7 : decode cz_L_isCode 7 = .ok (.if_icmp .gt 7, 3) := by decide +kernel
theorem dz_L_isCode_10 : decode cz_L_isCode 10 = .ok (.iconst 1, 1) := by decide +kernel
theorem dz_L_isCode_11 : decode cz_L_isCode 11 = .ok (.goto 4, 3) := by decide +kernel
theorem dz_L_isCode_14 : decode cz_L_isCode 14 = .ok (.iconst 0, 1) := by decide +kernel
theorem dz_L_isCode_15 : decode cz_L_isCode 15 = .ok (.ireturn, 1) := by decide +kernel
theorem dz_L_isTime_0 : decode cz_L_isTime 0 = .ok (.lload_n 1, 1) := by decide +kernel
theorem dz_L_isTime_1 : decode cz_L_isTime 1 = .ok (.aload_n 0, 1) := by decide +kernel
theorem dz_L_isTime_2 : decode cz_L_isTime 2 = .ok (.getfield 33, 3) := by decide +kernel
theorem dz_L_isTime_5 : decode cz_L_isTime 5 = .ok (.lcmp, 1) := by decide +kernel
theorem dz_L_isTime_6 : decode cz_L_isTime 6 = .ok (.ifCond .lt 15, 3) := by decide +kernel
theorem dz_L_isTime_9 : decode cz_L_isTime 9 = .ok (.lload_n 1, 1) := by decide +kernel
theorem dz_L_isTime_10 : decode cz_L_isTime 10 = .ok (.ldc2_w 63, 3) := by decide +kernel
theorem dz_L_isTime_13 : decode cz_L_isTime 13 = .ok (.lcmp, 1) := by decide +kernel
theorem dz_L_isTime_14 : decode cz_L_isTime 14 = .ok (.ifCond .gt 7, 3) := by decide +kernel
theorem dz_L_isTime_17 : decode cz_L_isTime 17 = .ok (.iconst 1, 1) := by decide +kernel
theorem dz_L_isTime_18 : decode cz_L_isTime 18 = .ok (.goto 4, 3) := by decide +kernel
theorem dz_L_isTime_21 : decode cz_L_isTime 21 = .ok (.iconst 0, 1) := by decide +kernel
theorem dz_L_isTime_22 : decode cz_L_isTime 22 = .ok (.ireturn, 1) := by decide +kernel
theorem dz_L_boxAt_0 : decode cz_L_boxAt 0 = .ok (.iload_n 1, 1) := by decide +kernel
theorem dz_L_boxAt_1 : decode cz_L_boxAt 1 = .ok (.iconst 1, 1) := by decide +kernel
theorem dz_L_boxAt_2 : decode cz_L_boxAt 2 = .ok (.if_icmp .lt 28, 3) := by decide +kernel
theorem dz_L_boxAt_5 : decode cz_L_boxAt 5 = .ok (.iload_n 1, 1) := by decide +kernel
theorem dz_L_boxAt_6 : decode cz_L_boxAt 6 = .ok (.aload_n 0, 1) := by decide +kernel
theorem dz_L_boxAt_7 : decode cz_L_boxAt 7 = .ok (.getfield 15, 3) := by decide +kernel
theorem dz_L_boxAt_10 : decode cz_L_boxAt 10 = .ok (.if_icmp .gt 20, 3) := by decide +kernel
theorem dz_L_boxAt_13 : decode cz_L_boxAt 13 = .ok (.iload_n 1, 1) := by decide +kernel
theorem dz_L_boxAt_14 : decode cz_L_boxAt 14 = .ok (.bipush 60, 2) := by decide +kernel
theorem dz_L_boxAt_16 : decode cz_L_boxAt 16 = .ok (.if_icmp .gt 14, 3) := by decide +kernel
theorem dz_L_boxAt_19 : decode cz_L_boxAt 19 = .ok (.aload_n 0, 1) := by decide +kernel
theorem dz_L_boxAt_20 : decode cz_L_boxAt 20 = .ok (.getfield 11, 3) := by decide +kernel
theorem dz_L_boxAt_23 : decode cz_L_boxAt 23 = .ok (.iload_n 1, 1) := by decide +kernel
theorem dz_L_boxAt_24 : decode cz_L_boxAt 24 = .ok (.iconst 1, 1) := by decide +kernel
theorem dz_L_boxAt_25 : decode cz_L_boxAt 25 = .ok (.isub, 1) := by decide +kernel
theorem dz_L_boxAt_26 : decode cz_L_boxAt 26 = .ok (.aaload, 1) := by decide +kernel
theorem dz_L_boxAt_27 : decode cz_L_boxAt 27 = .ok (.goto 4, 3) := by decide +kernel
theorem dz_L_boxAt_30 : decode cz_L_boxAt 30 = .ok (.aconst_null, 1) := by decide +kernel
theorem dz_L_boxAt_31 : decode cz_L_boxAt 31 = .ok (.areturn, 1) := by decide +kernel
theorem dz_L_boxOfItem_0 : decode cz_L_boxOfItem 0 = .ok (.iconst 1, 1) := by decide +kernel
theorem dz_L_boxOfItem_1 : decode cz_L_boxOfItem 1 = .ok (.istore_n 2, 1) := by decide +kernel
theorem dz_L_boxOfItem_2 : decode cz_L_boxOfItem 2 = .ok (.iload_n 2, 1) := by decide +kernel
theorem dz_L_boxOfItem_3 : decode cz_L_boxOfItem 3 = .ok (.aload_n 0, 1) := by decide +kernel
theorem dz_L_boxOfItem_4 : decode cz_L_boxOfItem 4 = .ok (.getfield 15, 3) := by decide +kernel
theorem dz_L_boxOfItem_7 : decode cz_L_boxOfItem 7 = .ok (.if_icmp .gt 29, 3) := by decide +kernel
theorem dz_L_boxOfItem_10 : decode cz_L_boxOfItem 10 = .ok (.aload_n 0, 1) := by decide +kernel
theorem dz_L_boxOfItem_11 : decode cz_L_boxOfItem 11 = .ok (.iload_n 2, 1) := by decide +kernel
theorem dz_L_boxOfItem_12 : decode cz_L_boxOfItem 12 = .ok (.invokevirtual 69, 3) := by decide +kernel
theorem dz_L_boxOfItem_15 : decode cz_L_boxOfItem 15 = .ok (.astore_n 3, 1) := by decide +kernel
theorem dz_L_boxOfItem_16 : decode cz_L_boxOfItem 16 = .ok (.aload_n 3, 1) := by decide +kernel
theorem dz_L_boxOfItem_17 : decode cz_L_boxOfItem 17 = .ok (.ifnull 13, 3) := by decide +kernel
theorem dz_L_boxOfItem_20 : decode cz_L_boxOfItem 20 = .ok (.aload_n 3, 1) := by decide +kernel
theorem dz_L_boxOfItem_21 : decode cz_L_boxOfItem 21 = .ok (.getfield 137, 3) := by decide +kernel
theorem dz_L_boxOfItem_24 : decode cz_L_boxOfItem 24 = .ok (.iload_n 1, 1) := by decide +kernel
theorem dz_L_boxOfItem_25 : decode cz_L_boxOfItem 25 = .ok (.if_icmp .ne 5, 3) := by decide +kernel
theorem dz_L_boxOfItem_28 : decode cz_L_boxOfItem 28 = .ok (.aload_n 3, 1) := by decide +kernel
theorem dz_L_boxOfItem_29 : decode cz_L_boxOfItem 29 = .ok (.areturn, 1) := by decide +kernel
theorem dz_L_boxOfItem_30 : decode cz_L_boxOfItem 30 = .ok (.iinc 2 1, 3) := by decide +kernel
theorem dz_L_boxOfItem_33 : decode cz_L_boxOfItem 33 = .ok (.goto (-31), 3) := by decide +kernel
theorem dz_L_boxOfItem_36 : decode cz_L_boxOfItem 36 = .ok (.aconst_null, 1) := by decide +kernel
theorem dz_L_boxOfItem_37 : decode cz_L_boxOfItem 37 = .ok (.areturn, 1) := by decide +kernel
theorem dz_L_boxNumberOfCode_0 : decode cz_L_boxNumberOfCode 0 = .ok (.iconst 1, 1) := by decide +kernel
theorem dz_L_boxNumberOfCode_1 : decode cz_L_boxNumberOfCode 1 = .ok (.istore_n 2, 1) := by decide +kernel
theorem dz_L_boxNumberOfCode_2 : decode cz_L_boxNumberOfCode 2 = .ok (.iload_n 2, 1) := by decide +kernel
theorem dz_L_boxNumberOfCode_3 : decode cz_L_boxNumberOfCode 3 = .ok (.aload_n 0, 1) := by decide +kernel
theorem dz_L_boxNumberOfCode_4 : decode cz_L_boxNumberOfCode 4 = .ok (.getfield 15, 3) := by decide +kernel
theorem dz_L_boxNumberOfCode_7 : decode cz_L_boxNumberOfCode 7 = .ok (.if_icmp .gt 36, 3) := by decide +kernel
theorem dz_L_boxNumberOfCode_10 : decode cz_L_boxNumberOfCode 10 = .ok (.aload_n 0, 1) := by decide +kernel
theorem dz_L_boxNumberOfCode_11 : decode cz_L_boxNumberOfCode 11 = .ok (.iload_n 2, 1) := by decide +kernel
theorem dz_L_boxNumberOfCode_12 : decode cz_L_boxNumberOfCode 12 = .ok (.invokevirtual 69, 3) := by decide +kernel
theorem dz_L_boxNumberOfCode_15 : decode cz_L_boxNumberOfCode 15 = .ok (.astore_n 3, 1) := by decide +kernel
theorem dz_L_boxNumberOfCode_16 : decode cz_L_boxNumberOfCode 16 = .ok (.aload_n 3, 1) := by decide +kernel
theorem dz_L_boxNumberOfCode_17 : decode cz_L_boxNumberOfCode 17 = .ok (.ifnull 20, 3) := by decide +kernel
theorem dz_L_boxNumberOfCode_20 : decode cz_L_boxNumberOfCode 20 = .ok (.aload_n 3, 1) := by decide +kernel
theorem dz_L_boxNumberOfCode_21 : decode cz_L_boxNumberOfCode 21 = .ok (.invokevirtual 145, 3) := by decide +kernel
theorem dz_L_boxNumberOfCode_24 : decode cz_L_boxNumberOfCode 24 = .ok (.ifCond .eq 13, 3) := by decide +kernel
theorem dz_L_boxNumberOfCode_27 : decode cz_L_boxNumberOfCode 27 = .ok (.aload_n 3, 1) := by decide +kernel
theorem dz_L_boxNumberOfCode_28 : decode cz_L_boxNumberOfCode 28 = .ok (.getfield 122, 3) := by decide +kernel
theorem dz_L_boxNumberOfCode_31 : decode cz_L_boxNumberOfCode 31 = .ok (.iload_n 1, 1) := by decide +kernel
theorem dz_L_boxNumberOfCode_32 : decode cz_L_boxNumberOfCode 32 = .ok (.if_icmp .ne 5, 3) := by decide +kernel
theorem dz_L_boxNumberOfCode_35 : decode cz_L_boxNumberOfCode 35 = .ok (.iload_n 2, 1) := by decide +kernel
theorem dz_L_boxNumberOfCode_36 : decode cz_L_boxNumberOfCode 36 = .ok (.ireturn, 1) := by decide +kernel
theorem dz_L_boxNumberOfCode_37 : decode cz_L_boxNumberOfCode 37 = .ok (.iinc 2 1, 3) := by decide +kernel
theorem dz_L_boxNumberOfCode_40 : decode cz_L_boxNumberOfCode 40 = .ok (.goto (-38), 3) := by decide +kernel
theorem dz_L_boxNumberOfCode_43 : decode cz_L_boxNumberOfCode 43 = .ok (.iconst 0, 1) := by decide +kernel
theorem dz_L_boxNumberOfCode_44 : decode cz_L_boxNumberOfCode 44 = .ok (.ireturn, 1) := by decide +kernel
theorem dz_L_smallestUnused_0 : decode cz_L_smallestUnused 0 = .ok (.iconst 0, 1) := by decide +kernel
theorem dz_L_smallestUnused_1 : decode cz_L_smallestUnused 1 = .ok (.istore_n 2, 1) := by decide +kernel
theorem dz_L_smallestUnused_2 : decode cz_L_smallestUnused 2 = .ok (.bipush 6, 2) := by decide +kernel
theorem dz_L_smallestUnused_4 : decode cz_L_smallestUnused 4 = .ok (.istore_n 3, 1) := by decide +kernel
theorem dz_L_smallestUnused_5 : decode cz_L_smallestUnused 5 = .ok (.iconst 1, 1) := by decide +kernel
theorem dz_L_smallestUnused_6 : decode cz_L_smallestUnused 6 = .ok (.istore 4, 2) := by decide +kernel
theorem dz_L_smallestUnused_8 : decode cz_L_smallestUnused 8 = .ok (.iload 4, 2) := by decide +kernel
theorem dz_L_smallestUnused_10 : decode cz_L_smallestUnused 10 = .ok (.aload_n 0, 1) := by decide +kernel
theorem dz_L_smallestUnused_11 : decode cz_L_smallestUnused 11 = .ok (.getfield 15, 3) := by decide +kernel
theorem dz_L_smallestUnused_14 : decode cz_L_smallestUnused 14 = .ok (.if_icmp .gt 57, 3) := by decide +kernel
theorem dz_L_smallestUnused_17 : decode cz_L_smallestUnused 17 = .ok (.aload_n 0, 1) := by decide +kernel
theorem dz_L_smallestUnused_18 : decode cz_L_smallestUnused 18 = .ok (.iload 4, 2) := by decide +kernel
theorem dz_L_smallestUnused_20 : decode cz_L_smallestUnused 20 = .ok (.invokevirtual 69, 3) := by decide +kernel
theorem dz_L_smallestUnused_23 : decode cz_L_smallestUnused 23 = .ok (.astore 5, 2) := by decide +kernel
theorem dz_L_smallestUnused_25 : decode cz_L_smallestUnused 25 = .ok (.aload 5, 2) := by decide +kernel
theorem dz_L_smallestUnused_27 : decode cz_L_smallestUnused 27 = .ok (.ifnull 38, 3) := by decide +kernel
theorem dz_L_smallestUnused_30 : decode cz_L_smallestUnused 30 = .ok (.aload 5, 2) := by decide +kernel
theorem dz_L_smallestUnused_32 : decode cz_L_smallestUnused 32 = .ok (.invokevirtual 148, 3) := by decide +kernel
theorem dz_L_smallestUnused_35 : decode cz_L_smallestUnused 35 = .ok (.ifCond .eq 30, 3) := by decide +kernel
theorem dz_L_smallestUnused_38 : decode cz_L_smallestUnused 38 = .ok (.aload 5, 2) := by decide +kernel
theorem dz_L_smallestUnused_40 : decode cz_L_smallestUnused 40 = .ok (.getfield 151, 3) := by decide +kernel
theorem dz_L_smallestUnused_43 : decode cz_L_smallestUnused 43 = .ok (.iload_n 1, 1) := by decide +kernel
theorem dz_L_smallestUnused_44 : decode cz_L_smallestUnused 44 = .ok (.if_icmp .lt 21, 3) := by decide +kernel
theorem dz_L_smallestUnused_47 : decode cz_L_smallestUnused 47 = .ok (.aload 5, 2) := by decide +kernel
theorem dz_L_smallestUnused_49 : decode cz_L_smallestUnused 49 = .ok (.getfield 151, 3) := by decide +kernel
theorem dz_L_smallestUnused_52 : decode cz_L_smallestUnused 52 = .ok (.iload_n 3, 1) := by decide +kernel
theorem dz_L_smallestUnused_53 : decode cz_L_smallestUnused 53 = .ok (.if_icmp .ge 12, 3) := by decide +kernel
theorem dz_L_smallestUnused_56 : decode cz_L_smallestUnused 56 = .ok (.iload 4, 2) := by decide +kernel
theorem dz_L_smallestUnused_58 : decode cz_L_smallestUnused 58 = .ok (.istore_n 2, 1) := by decide +kernel
theorem dz_L_smallestUnused_59 : decode cz_L_smallestUnused 59 = .ok (.aload 5, 2) := by decide +kernel
theorem dz_L_smallestUnused_61 : decode cz_L_smallestUnused 61 = .ok (.getfield 151, 3) := by decide +kernel
theorem dz_L_smallestUnused_64 : decode cz_L_smallestUnused 64 = .ok (.istore_n 3, 1) := by decide +kernel
theorem dz_L_smallestUnused_65 : decode cz_L_smallestUnused 65 = .ok (.iinc 4 1, 3) := by decide +kernel
theorem dz_L_smallestUnused_68 : decode cz_L_smallestUnused 68 = .ok (.goto (-60), 3) := by decide +kernel
theorem dz_L_smallestUnused_71 : decode cz_L_smallestUnused 71 = .ok (.iload_n 2, 1) := by decide +kernel
theorem dz_L_smallestUnused_72 : decode cz_L_smallestUnused 72 = .ok (.ireturn, 1) := by decide +kernel
theorem dz_L_wantedCode_0 : decode cz_L_wantedCode 0 = .ok (.iconst 0, 1) := by decide +kernel
theorem dz_L_wantedCode_1 : decode cz_L_wantedCode 1 = .ok (.istore_n 1, 1) := by decide +kernel
theorem dz_L_wantedCode_2 : decode cz_L_wantedCode 2 = .ok (.iload_n 1, 1) := by decide +kernel
theorem dz_L_wantedCode_3 : decode cz_L_wantedCode 3 = .ok (.aload_n 0, 1) := by decide +kernel
theorem dz_L_wantedCode_4 : decode cz_L_wantedCode 4 = .ok (.getfield 22, 3) := by decide +kernel
theorem dz_L_wantedCode_7 : decode cz_L_wantedCode 7 = .ok (.invokevirtual 59, 3) := by decide +kernel
theorem dz_L_wantedCode_10 : decode cz_L_wantedCode 10 = .ok (.if_icmp .ge 38, 3) := by decide +kernel
theorem dz_L_wantedCode_13 : decode cz_L_wantedCode 13 = .ok (.aload_n 0, 1) := by decide +kernel
theorem dz_L_wantedCode_14 : decode cz_L_wantedCode 14 = .ok (.getfield 22, 3) := by decide +kernel
theorem dz_L_wantedCode_17 : decode cz_L_wantedCode 17 = .ok (.iload_n 1, 1) := by decide +kernel
theorem dz_L_wantedCode_18 : decode cz_L_wantedCode 18 = .ok (.invokevirtual 154, 3) := by decide +kernel
theorem dz_L_wantedCode_21 : decode cz_L_wantedCode 21 = .ok (.istore_n 2, 1) := by decide +kernel
theorem dz_L_wantedCode_22 : decode cz_L_wantedCode 22 = .ok (.aload_n 0, 1) := by decide +kernel
theorem dz_L_wantedCode_23 : decode cz_L_wantedCode 23 = .ok (.iload_n 2, 1) := by decide +kernel
theorem dz_L_wantedCode_24 : decode cz_L_wantedCode 24 = .ok (.invokevirtual 110, 3) := by decide +kernel
theorem dz_L_wantedCode_27 : decode cz_L_wantedCode 27 = .ok (.ifCond .ne 15, 3) := by decide +kernel
theorem dz_L_wantedCode_30 : decode cz_L_wantedCode 30 = .ok (.aload_n 0, 1) := by decide +kernel
theorem dz_L_wantedCode_31 : decode cz_L_wantedCode 31 = .ok (.getfield 22, 3) := by decide +kernel
theorem dz_L_wantedCode_34 : decode cz_L_wantedCode 34 = .ok (.iload_n 1, 1) := by decide +kernel
theorem dz_L_wantedCode_35 : decode cz_L_wantedCode 35 = .ok (.iconst 1, 1) := by decide +kernel
theorem dz_L_wantedCode_36 : decode cz_L_wantedCode 36 = .ok (.iadd, 1) := by decide +kernel
theorem dz_L_wantedCode_37 : decode cz_L_wantedCode 37 = .ok (.invokevirtual 157, 3) := by decide +kernel
theorem dz_L_wantedCode_40 : decode cz_L_wantedCode 40 = .ok (.iload_n 2, 1) := by decide +kernel
theorem dz_L_wantedCode_41 : decode cz_L_wantedCode 41 = .ok (.ireturn, 1) := by decide +kernel
theorem dz_L_wantedCode_42 : decode cz_L_wantedCode 42 = .ok (.iinc 1 1, 3) := by decide +kernel
theorem dz_L_wantedCode_45 : decode cz_L_wantedCode 45 = .ok (.goto (-43), 3) := by decide +kernel
theorem dz_L_wantedCode_48 : decode cz_L_wantedCode 48 = .ok (.iconst (-1), 1) := by decide +kernel
theorem dz_L_wantedCode_49 : decode cz_L_wantedCode 49 = .ok (.ireturn, 1) := by decide +kernel
theorem dz_L_countWrongTry_0 : decode cz_L_countWrongTry 0 = .ok (.aload_n 0, 1) := by decide +kernel
theorem dz_L_countWrongTry_1 : decode cz_L_countWrongTry 1 = .ok (.dup, 1) := by decide +kernel
theorem dz_L_countWrongTry_2 : decode cz_L_countWrongTry 2 = .ok (.getfield 40, 3) := by decide +kernel
theorem dz_L_countWrongTry_5 : decode cz_L_countWrongTry 5 = .ok (.iconst 1, 1) := by decide +kernel
theorem dz_L_countWrongTry_6 : decode cz_L_countWrongTry 6 = .ok (.iadd, 1) := by decide +kernel
theorem dz_L_countWrongTry_7 : decode cz_L_countWrongTry 7 = .ok (.putfield 40, 3) := by decide +kernel
theorem dz_L_countWrongTry_10 : decode cz_L_countWrongTry 10 = .ok (.aload_n 0, 1) := by decide +kernel
theorem dz_L_countWrongTry_11 : decode cz_L_countWrongTry 11 = .ok (.getfield 40, 3) := by decide +kernel
theorem dz_L_countWrongTry_14 : decode cz_L_countWrongTry 14 = .ok (.iconst 3, 1) := by decide +kernel
theorem dz_L_countWrongTry_15 : decode cz_L_countWrongTry 15 = .ok (.if_icmp .lt 17, 3) := by decide +kernel
theorem dz_L_countWrongTry_18 : decode cz_L_countWrongTry 18 = .ok (.aload_n 0, 1) := by decide +kernel
theorem dz_L_countWrongTry_19 : decode cz_L_countWrongTry 19 = .ok (.iconst 0, 1) := by decide +kernel
theorem dz_L_countWrongTry_20 : decode cz_L_countWrongTry 20 = .ok (.putfield 40, 3) := by decide +kernel
theorem dz_L_countWrongTry_23 : decode cz_L_countWrongTry 23 = .ok (.aload_n 0, 1) := by decide +kernel
theorem dz_L_countWrongTry_24 : decode cz_L_countWrongTry 24 = .ok (.lload_n 1, 1) := by decide +kernel
theorem dz_L_countWrongTry_25 : decode cz_L_countWrongTry 25 = .ok (.ldc2_w 160, 3) := by decide +kernel
theorem dz_L_countWrongTry_28 : decode cz_L_countWrongTry 28 = .ok (.ladd, 1) := by decide +kernel
theorem dz_L_countWrongTry_29 : decode cz_L_countWrongTry 29 = .ok (.putfield 43, 3) := by decide +kernel
theorem dz_L_countWrongTry_32 : decode cz_L_countWrongTry 32 = .ok (.return_, 1) := by decide +kernel
theorem dz_L_passTo_0 : decode cz_L_passTo 0 = .ok (.aload_n 0, 1) := by decide +kernel
theorem dz_L_passTo_1 : decode cz_L_passTo 1 = .ok (.lload_n 1, 1) := by decide +kernel
theorem dz_L_passTo_2 : decode cz_L_passTo 2 = .ok (.putfield 33, 3) := by decide +kernel
theorem dz_L_passTo_5 : decode cz_L_passTo 5 = .ok (.iconst 1, 1) := by decide +kernel
theorem dz_L_passTo_6 : decode cz_L_passTo 6 = .ok (.istore_n 3, 1) := by decide +kernel
theorem dz_L_passTo_7 : decode cz_L_passTo 7 = .ok (.iload_n 3, 1) := by decide +kernel
theorem dz_L_passTo_8 : decode cz_L_passTo 8 = .ok (.aload_n 0, 1) := by decide +kernel
theorem dz_L_passTo_9 : decode cz_L_passTo 9 = .ok (.getfield 15, 3) := by decide +kernel
theorem dz_L_passTo_12 : decode cz_L_passTo 12 = .ok (.if_icmp .gt 50, 3) := by decide +kernel
theorem dz_L_passTo_15 : decode cz_L_passTo 15 = .ok (.aload_n 0, 1) := by decide +kernel
theorem dz_L_passTo_16 : decode cz_L_passTo 16 = .ok (.iload_n 3, 1) := by decide +kernel
theorem dz_L_passTo_17 : decode cz_L_passTo 17 = .ok (.invokevirtual 69, 3) := by decide +kernel
theorem dz_L_passTo_20 : decode cz_L_passTo 20 = .ok (.astore 4, 2) := by decide +kernel
theorem dz_L_passTo_22 : decode cz_L_passTo 22 = .ok (.aload 4, 2) := by decide +kernel
theorem dz_L_passTo_24 : decode cz_L_passTo 24 = .ok (.ifnull 32, 3) := by decide +kernel
theorem dz_L_passTo_27 : decode cz_L_passTo 27 = .ok (.aload 4, 2) := by decide +kernel
theorem dz_L_passTo_29 : decode cz_L_passTo 29 = .ok (.lload_n 1, 1) := by decide +kernel
theorem dz_L_passTo_30 : decode cz_L_passTo 30 = .ok (.invokevirtual 162, 3) := by decide +kernel
theorem dz_L_passTo_33 : decode cz_L_passTo 33 = .ok (.ifCond .eq 8, 3) := by decide +kernel
theorem dz_L_passTo_36 : decode cz_L_passTo 36 = .ok (.aload_n 0, 1) := by decide +kernel
theorem dz_L_passTo_37 : decode cz_L_passTo 37 = .ok (.iload_n 3, 1) := by decide +kernel
theorem dz_L_passTo_38 : decode cz_L_passTo 38 = .ok (.invokevirtual 165, 3) := by decide +kernel
theorem dz_L_passTo_41 : decode cz_L_passTo 41 = .ok (.aload_n 0, 1) := by decide +kernel
theorem dz_L_passTo_42 : decode cz_L_passTo 42 = .ok (.dup, 1) := by decide +kernel
theorem dz_L_passTo_43 : decode cz_L_passTo 43 = .ok (.getfield 37, 3) := by decide +kernel
theorem dz_L_passTo_46 : decode cz_L_passTo 46 = .ok (.aload 4, 2) := by decide +kernel
theorem dz_L_passTo_48 : decode cz_L_passTo 48 = .ok (.lload_n 1, 1) := by decide +kernel
theorem dz_L_passTo_49 : decode cz_L_passTo 49 = .ok (.invokevirtual 168, 3) := by decide +kernel
theorem dz_L_passTo_52 : decode cz_L_passTo 52 = .ok (.iadd, 1) := by decide +kernel
theorem dz_L_passTo_53 : decode cz_L_passTo 53 = .ok (.putfield 37, 3) := by decide +kernel
theorem dz_L_passTo_56 : decode cz_L_passTo 56 = .ok (.iinc 3 1, 3) := by decide +kernel
theorem dz_L_passTo_59 : decode cz_L_passTo 59 = .ok (.goto (-52), 3) := by decide +kernel
theorem dz_L_passTo_62 : decode cz_L_passTo 62 = .ok (.return_, 1) := by decide +kernel
theorem dz_L_noteFreed_0 : decode cz_L_noteFreed 0 = .ok (.aload_n 0, 1) := by decide +kernel
theorem dz_L_noteFreed_1 : decode cz_L_noteFreed 1 = .ok (.getfield 30, 3) := by decide +kernel
theorem dz_L_noteFreed_4 : decode cz_L_noteFreed 4 = .ok (.bipush 100, 2) := by decide +kernel
theorem dz_L_noteFreed_6 : decode cz_L_noteFreed 6 = .ok (.if_icmp .ge 23, 3) := by decide +kernel
theorem dz_L_noteFreed_9 : decode cz_L_noteFreed 9 = .ok (.aload_n 0, 1) := by decide +kernel
theorem dz_L_noteFreed_10 : decode cz_L_noteFreed 10 = .ok (.getfield 26, 3) := by decide +kernel
theorem dz_L_noteFreed_13 : decode cz_L_noteFreed 13 = .ok (.aload_n 0, 1) := by decide +kernel
theorem dz_L_noteFreed_14 : decode cz_L_noteFreed 14 = .ok (.getfield 30, 3) := by decide +kernel
theorem dz_L_noteFreed_17 : decode cz_L_noteFreed 17 = .ok (.iload_n 1, 1) := by decide +kernel
theorem dz_L_noteFreed_18 : decode cz_L_noteFreed 18 = .ok (.iastore, 1) := by decide +kernel
theorem dz_L_noteFreed_19 : decode cz_L_noteFreed 19 = .ok (.aload_n 0, 1) := by decide +kernel
theorem dz_L_noteFreed_20 : decode cz_L_noteFreed 20 = .ok (.dup, 1) := by decide +kernel
theorem dz_L_noteFreed_21 : decode cz_L_noteFreed 21 = .ok (.getfield 30, 3) := by decide +kernel
theorem dz_L_noteFreed_24 : decode cz_L_noteFreed 24 = .ok (.iconst 1, 1) := by decide +kernel
theorem dz_L_noteFreed_25 : decode cz_L_noteFreed 25 = .ok (.iadd, 1) := by decide +kernel
theorem dz_L_noteFreed_26 : decode cz_L_noteFreed 26 = .ok (.putfield 30, 3) := by decide +kernel
theorem dz_L_noteFreed_29 : decode cz_L_noteFreed 29 = .ok (.return_, 1) := by decide +kernel
theorem dz_B_init_0 : decode cz_B_init 0 = .ok (.aload_n 0, 1) := by decide +kernel
theorem dz_B_init_1 : decode cz_B_init 1 = .ok (.invokespecial 3, 3) := by decide +kernel
theorem dz_B_init_4 : decode cz_B_init 4 = .ok (.aload_n 0, 1) := by decide +kernel
theorem dz_B_init_5 : decode cz_B_init 5 = .ok (.iconst 0, 1) := by decide +kernel
theorem dz_B_init_6 : decode cz_B_init 6 = .ok (.putfield 9, 3) := by decide +kernel
theorem dz_B_init_9 : decode cz_B_init 9 = .ok (.aload_n 0, 1) := by decide +kernel
theorem dz_B_init_10 : decode cz_B_init 10 = .ok (.lconst 0, 1) := by decide +kernel
theorem dz_B_init_11 : decode cz_B_init 11 = .ok (.putfield 15, 3) := by decide +kernel
theorem dz_B_init_14 : decode cz_B_init 14 = .ok (.aload_n 0, 1) := by decide +kernel
theorem dz_B_init_15 : decode cz_B_init 15 = .ok (.iconst 0, 1) := by decide +kernel
theorem dz_B_init_16 : decode cz_B_init 16 = .ok (.putfield 19, 3) := by decide +kernel
theorem dz_B_init_19 : decode cz_B_init 19 = .ok (.aload_n 0, 1) := by decide +kernel
theorem dz_B_init_20 : decode cz_B_init 20 = .ok (.iconst 0, 1) := by decide +kernel
theorem dz_B_init_21 : decode cz_B_init 21 = .ok (.putfield 23, 3) := by decide +kernel
theorem dz_B_init_24 : decode cz_B_init 24 = .ok (.aload_n 0, 1) := by decide +kernel
theorem dz_B_init_25 : decode cz_B_init 25 = .ok (.iconst (-1), 1) := by decide +kernel
theorem dz_B_init_26 : decode cz_B_init 26 = .ok (.putfield 26, 3) := by decide +kernel
theorem dz_B_init_29 : decode cz_B_init 29 = .ok (.aload_n 0, 1) := by decide +kernel
theorem dz_B_init_30 : decode cz_B_init 30 = .ok (.lconst 0, 1) := by decide +kernel
theorem dz_B_init_31 : decode cz_B_init 31 = .ok (.putfield 29, 3) := by decide +kernel
theorem dz_B_init_34 : decode cz_B_init 34 = .ok (.aload_n 0, 1) := by decide +kernel
theorem dz_B_init_35 : decode cz_B_init 35 = .ok (.iconst 0, 1) := by decide +kernel
theorem dz_B_init_36 : decode cz_B_init 36 = .ok (.putfield 32, 3) := by decide +kernel
theorem dz_B_init_39 : decode cz_B_init 39 = .ok (.aload_n 0, 1) := by decide +kernel
theorem dz_B_init_40 : decode cz_B_init 40 = .ok (.lconst 0, 1) := by decide +kernel
theorem dz_B_init_41 : decode cz_B_init 41 = .ok (.putfield 35, 3) := by decide +kernel
theorem dz_B_init_44 : decode cz_B_init 44 = .ok (.aload_n 0, 1) := by decide +kernel
theorem dz_B_init_45 : decode cz_B_init 45 = .ok (.iload_n 1, 1) := by decide +kernel
theorem dz_B_init_46 : decode cz_B_init 46 = .ok (.putfield 38, 3) := by decide +kernel
theorem dz_B_init_49 : decode cz_B_init 49 = .ok (.return_, 1) := by decide +kernel
theorem dz_B_isEvent_0 : decode cz_B_isEvent 0 = .ok (.iload_n 0, 1) := by decide +kernel
theorem dz_B_isEvent_1 : decode cz_B_isEvent 1 = .ok (.ifCond .lt 12, 3) := by decide +kernel
theorem dz_B_isEvent_4 : decode cz_B_isEvent 4 = .ok (.iload_n 0, 1) := by decide +kernel
theorem dz_B_isEvent_5 : decode cz_B_isEvent 5 = .ok (.iconst 4, 1) := by decide +kernel
theorem dz_B_isEvent_6 : decode cz_B_isEvent 6 = .ok (.if_icmp .gt 7, 3) := by decide +kernel
theorem dz_B_isEvent_9 : decode cz_B_isEvent 9 = .ok (.iconst 1, 1) := by decide +kernel
theorem dz_B_isEvent_10 : decode cz_B_isEvent 10 = .ok (.goto 4, 3) := by decide +kernel
theorem dz_B_isEvent_13 : decode cz_B_isEvent 13 = .ok (.iconst 0, 1) := by decide +kernel
theorem dz_B_isEvent_14 : decode cz_B_isEvent 14 = .ok (.ireturn, 1) := by decide +kernel
theorem dz_B_isEmpty_0 : decode cz_B_isEmpty 0 = .ok (.aload_n 0, 1) := by decide +kernel
theorem dz_B_isEmpty_1 : decode cz_B_isEmpty 1 = .ok (.getfield 23, 3) := by decide +kernel
theorem dz_B_isEmpty_4 : decode cz_B_isEmpty 4 = .ok (.ifCond .ne 7, 3) := by decide +kernel
theorem dz_B_isEmpty_7 : decode cz_B_isEmpty 7 = .ok (.iconst 1, 1) := by decide +kernel
theorem dz_B_isEmpty_8 : decode cz_B_isEmpty 8 = .ok (.goto 4, 3) := by decide +kernel
theorem dz_B_isEmpty_11 : decode cz_B_isEmpty 11 = .ok (.iconst 0, 1) := by decide +kernel
theorem dz_B_isEmpty_12 : decode cz_B_isEmpty 12 = .ok (.ireturn, 1) := by decide +kernel
theorem dz_B_lies_0 : decode cz_B_lies 0 = .ok (.aload_n 0, 1) := by decide +kernel
theorem dz_B_lies_1 : decode cz_B_lies 1 = .ok (.getfield 26, 3) := by decide +kernel
theorem dz_B_lies_4 : decode cz_B_lies 4 = .ok (.iconst (-1), 1) := by decide +kernel
theorem dz_B_lies_5 : decode cz_B_lies 5 = .ok (.if_icmp .eq 7, 3) := by decide +kernel
theorem dz_B_lies_8 : decode cz_B_lies 8 = .ok (.iconst 1, 1) := by decide +kernel
theorem dz_B_lies_9 : decode cz_B_lies 9 = .ok (.goto 4, 3) := by decide +kernel
theorem dz_B_lies_12 : decode cz_B_lies 12 = .ok (.iconst 0, 1) := by decide +kernel
theorem dz_B_lies_13 : decode cz_B_lies 13 = .ok (.ireturn, 1) := by decide +kernel
theorem dz_B_wantsCode_0 : decode cz_B_wantsCode 0 = .ok (.aload_n 0, 1) := by decide +kernel
theorem dz_B_wantsCode_1 : decode cz_B_wantsCode 1 = .ok (.invokevirtual 41, 3) := by decide +kernel
theorem dz_B_wantsCode_4 : decode cz_B_wantsCode 4 = .ok (.ifCond .ne 14, 3) := by decide +kernel
theorem dz_B_wantsCode_7 : decode cz_B_wantsCode 7 = .ok (.aload_n 0, 1) := by decide +kernel
theorem dz_B_wantsCode_8 : decode cz_B_wantsCode 8 = .ok (.invokevirtual 45, 3) := by decide +kernel
theorem dz_B_wantsCode_11 : decode cz_B_wantsCode 11 = .ok (.ifCond .ne 7, 3) := by decide +kernel
theorem dz_B_wantsCode_14 : decode cz_B_wantsCode 14 = .ok (.iconst 1, 1) := by decide +kernel
theorem dz_B_wantsCode_15 : decode cz_B_wantsCode 15 = .ok (.goto 4, 3) := by decide +kernel
theorem dz_B_wantsCode_18 : decode cz_B_wantsCode 18 = .ok (.iconst 0, 1) := by decide +kernel
theorem dz_B_wantsCode_19 : decode cz_B_wantsCode 19 = .ok (.ireturn, 1) := by decide +kernel
theorem dz_B_isOpenOrForced_0 : decode cz_B_isOpenOrForced 0 = .ok (.aload_n 0, 1) := by decide +kernel
theorem dz_B_isOpenOrForced_1 : decode cz_B_isOpenOrForced 1 = .ok (.getfield 9, 3) := by decide +kernel
theorem dz_B_isOpenOrForced_4 : decode cz_B_isOpenOrForced 4 = .ok (.iconst 1, 1) := by decide +kernel
theorem dz_B_isOpenOrForced_5 : decode cz_B_isOpenOrForced 5 = .ok (.if_icmp .eq 11, 3) := by decide +kernel
theorem dz_B_isOpenOrForced_8 : decode cz_B_isOpenOrForced 8 = .ok (.aload_n 0, 1) := by decide +kernel
theorem dz_B_isOpenOrForced_9 : decode cz_B_isOpenOrForced 9 = .ok (.getfield 9, 3) := by decide +kernel
theorem dz_B_isOpenOrForced_12 : decode cz_B_isOpenOrForced 12 = .ok (.iconst 2, 1) := by decide +kernel
theorem dz_B_isOpenOrForced_13 : decode cz_B_isOpenOrForced 13 = .ok (.if_icmp .ne 7, 3) := by decide +kernel
theorem dz_B_isOpenOrForced_16 : decode cz_B_isOpenOrForced 16 = .ok (.iconst 1, 1) := by decide +kernel
theorem dz_B_isOpenOrForced_17 : decode cz_B_isOpenOrForced 17 = .ok (.goto 4, 3) := by decide +kernel
theorem dz_B_isOpenOrForced_20 : decode cz_B_isOpenOrForced 20 = .ok (.iconst 0, 1) := by decide +kernel
theorem dz_B_isOpenOrForced_21 : decode cz_B_isOpenOrForced 21 = .ok (.ireturn, 1) := by decide +kernel
theorem dz_B_isUnused_0 : decode cz_B_isUnused 0 = .ok (.aload_n 0, 1) := by decide +kernel
theorem dz_B_isUnused_1 : decode cz_B_isUnused 1 = .ok (.getfield 9, 3) := by decide +kernel
theorem dz_B_isUnused_4 : decode cz_B_isUnused 4 = .ok (.ifCond .ne 23, 3) := by decide +kernel
theorem dz_B_isUnused_7 : decode cz_B_isUnused 7 = .ok (.aload_n 0, 1) := by decide +kernel
theorem dz_B_isUnused_8 : decode cz_B_isUnused 8 = .ok (.invokevirtual 41, 3) := by decide +kernel
theorem dz_B_isUnused_11 : decode cz_B_isUnused 11 = .ok (.ifCond .eq 16, 3) := by decide +kernel
theorem dz_B_isUnused_14 : decode cz_B_isUnused 14 = .ok (.aload_n 0, 1) := by decide +kernel
theorem dz_B_isUnused_15 : decode cz_B_isUnused 15 = .ok (.getfield 35, 3) := by decide +kernel
theorem dz_B_isUnused_18 : decode cz_B_isUnused 18 = .ok (.lconst 0, 1) := by decide +kernel
theorem dz_B_isUnused_19 : decode cz_B_isUnused 19 = .ok (.lcmp, 1) := by decide +kernel
theorem dz_B_isUnused_20 : decode cz_B_isUnused 20 = .ok (.ifCond .ne 7, 3) := by decide +kernel
theorem dz_B_isUnused_23 : decode cz_B_isUnused 23 = .ok (.iconst 1, 1) := by decide +kernel
theorem dz_B_isUnused_24 : decode cz_B_isUnused 24 = .ok (.goto 4, 3) := by decide +kernel
theorem dz_B_isUnused_27 : decode cz_B_isUnused 27 = .ok (.iconst 0, 1) := by decide +kernel
theorem dz_B_isUnused_28 : decode cz_B_isUnused 28 = .ok (.ireturn, 1) := by decide +kernel
theorem dz_B_admits_0 : decode cz_B_admits 0 = .ok (.iload_n 1, 1) := by decide +kernel
theorem dz_B_admits_1 : decode cz_B_admits 1 = .ok (.tableswitch 102 0 4 #[35, 48, 69, 83, 88], 35) := by decide +kernel
theorem dz_B_admits_36 : decode cz_B_admits 36 = .ok (.aload_n 0, 1) := by decide +kernel
theorem dz_B_admits_37 : decode cz_B_admits 37 = .ok (.getfield 9, 3) := by decide +kernel
theorem dz_B_admits_40 : decode cz_B_admits 40 = .ok (.ifCond .ne 7, 3) := by decide +kernel
theorem dz_B_admits_43 : decode cz_B_admits 43 = .ok (.iconst 1, 1) := by decide +kernel
theorem dz_B_admits_44 : decode cz_B_admits 44 = .ok (.goto 4, 3) := by decide +kernel
theorem dz_B_admits_47 : decode cz_B_admits 47 = .ok (.iconst 0, 1) := by decide +kernel
theorem dz_B_admits_48 : decode cz_B_admits 48 = .ok (.ireturn, 1) := by decide +kernel
theorem dz_B_admits_49 : decode cz_B_admits 49 = .ok (.aload_n 0, 1) := by decide +kernel
theorem dz_B_admits_50 : decode cz_B_admits 50 = .ok (.getfield 9, 3) := by decide +kernel
theorem dz_B_admits_53 : decode cz_B_admits 53 = .ok (.ifCond .eq 11, 3) := by decide +kernel
theorem dz_B_admits_56 : decode cz_B_admits 56 = .ok (.aload_n 0, 1) := by decide +kernel
theorem dz_B_admits_57 : decode cz_B_admits 57 = .ok (.getfield 9, 3) := by decide +kernel
theorem dz_B_admits_60 : decode cz_B_admits 60 = .ok (.iconst 1, 1) := by decide +kernel
theorem dz_B_admits_61 : decode cz_B_admits 61 = .ok (.if_icmp .ne 7, 3) := by decide +kernel
theorem dz_B_admits_64 : decode cz_B_admits 64 = .ok (.iconst 1, 1) := by decide +kernel
theorem dz_B_admits_65 : decode cz_B_admits 65 = .ok (.goto 4, 3) := by decide +kernel
theorem dz_B_admits_68 : decode cz_B_admits 68 = .ok (.iconst 0, 1) := by decide +kernel
theorem dz_B_admits_69 : decode cz_B_admits 69 = .ok (.ireturn, 1) := by decide +kernel
theorem dz_B_admits_70 : decode cz_B_admits 70 = .ok (.aload_n 0, 1) := by decide +kernel
theorem dz_B_admits_71 : decode cz_B_admits 71 = .ok (.getfield 9, 3) := by decide +kernel
theorem dz_B_admits_74 : decode cz_B_admits 74 = .ok (.iconst 2, 1) := by decide +kernel
theorem dz_B_admits_75 : decode cz_B_admits 75 = .ok (.if_icmp .ne 7, 3) := by decide +kernel
theorem dz_B_admits_78 : decode cz_B_admits 78 = .ok (.iconst 1, 1) := by decide +kernel
theorem dz_B_admits_79 : decode cz_B_admits 79 = .ok (.goto 4, 3) := by decide +kernel
theorem dz_B_admits_82 : decode cz_B_admits 82 = .ok (.iconst 0, 1) := by decide +kernel
theorem dz_B_admits_83 : decode cz_B_admits 83 = .ok (.ireturn, 1) := by decide +kernel
theorem dz_B_admits_84 : decode cz_B_admits 84 = .ok (.aload_n 0, 1) := by decide +kernel
theorem dz_B_admits_85 : decode cz_B_admits 85 = .ok (.invokevirtual 48, 3) := by decide +kernel
theorem dz_B_admits_88 : decode cz_B_admits 88 = .ok (.ireturn, 1) := by decide +kernel
theorem dz_B_admits_89 : decode cz_B_admits 89 = .ok (.aload_n 0, 1) := by decide +kernel
theorem dz_B_admits_90 : decode cz_B_admits 90 = .ok (.getfield 9, 3) := by decide +kernel
theorem dz_B_admits_93 : decode cz_B_admits 93 = .ok (.iconst 3, 1) := by decide +kernel
theorem dz_B_admits_94 : decode cz_B_admits 94 = .ok (.if_icmp .ne 7, 3) := by decide +kernel
theorem dz_B_admits_97 : decode cz_B_admits 97 = .ok (.iconst 1, 1) := by decide +kernel
theorem dz_B_admits_98 : decode cz_B_admits 98 = .ok (.goto 4, 3) := by decide +kernel
theorem dz_B_admits_101 : decode cz_B_admits 101 = .ok (.iconst 0, 1) := by decide +kernel
theorem dz_B_admits_102 : decode cz_B_admits 102 = .ok (.ireturn, 1) := by decide +kernel
theorem dz_B_admits_103 : decode cz_B_admits 103 = .ok (.iconst 0, 1) := by decide +kernel
theorem dz_B_admits_104 : decode cz_B_admits 104 = .ok (.ireturn, 1) := by decide +kernel
theorem dz_B_undergo_0 : decode cz_B_undergo 0 = .ok (.iload_n 1, 1) := by decide +kernel
theorem dz_B_undergo_1 : decode cz_B_undergo 1 = .ok (.tableswitch 57 0 3 #[31, 40, 57, 49], 31) := by decide +kernel
theorem dz_B_undergo_32 : decode cz_B_undergo 32 = .ok (.aload_n 0, 1) := by decide +kernel
theorem dz_B_undergo_33 : decode cz_B_undergo 33 = .ok (.iconst 1, 1) := by decide +kernel
theorem dz_B_undergo_34 : decode cz_B_undergo 34 = .ok (.lload_n 2, 1) := by decide +kernel
theorem dz_B_undergo_35 : decode cz_B_undergo 35 = .ok (.invokevirtual 51, 3) := by decide +kernel
theorem dz_B_undergo_38 : decode cz_B_undergo 38 = .ok (.goto 25, 3) := by decide +kernel
theorem dz_B_undergo_41 : decode cz_B_undergo 41 = .ok (.aload_n 0, 1) := by decide +kernel
theorem dz_B_undergo_42 : decode cz_B_undergo 42 = .ok (.iconst 2, 1) := by decide +kernel
theorem dz_B_undergo_43 : decode cz_B_undergo 43 = .ok (.lload_n 2, 1) := by decide +kernel
theorem dz_B_undergo_44 : decode cz_B_undergo 44 = .ok (.invokevirtual 51, 3) := by decide +kernel
theorem dz_B_undergo_47 : decode cz_B_undergo 47 = .ok (.goto 16, 3) := by decide +kernel
theorem dz_B_undergo_50 : decode cz_B_undergo 50 = .ok (.aload_n 0, 1) := by decide +kernel
theorem dz_B_undergo_51 : decode cz_B_undergo 51 = .ok (.iconst 3, 1) := by decide +kernel
theorem dz_B_undergo_52 : decode cz_B_undergo 52 = .ok (.putfield 9, 3) := by decide +kernel
theorem dz_B_undergo_55 : decode cz_B_undergo 55 = .ok (.goto 8, 3) := by decide +kernel
theorem dz_B_undergo_58 : decode cz_B_undergo 58 = .ok (.aload_n 0, 1) := by decide +kernel
theorem dz_B_undergo_59 : decode cz_B_undergo 59 = .ok (.iconst 0, 1) := by decide +kernel
theorem dz_B_undergo_60 : decode cz_B_undergo 60 = .ok (.putfield 9, 3) := by decide +kernel
theorem dz_B_undergo_63 : decode cz_B_undergo 63 = .ok (.return_, 1) := by decide +kernel
theorem dz_B_beginOpening_0 : decode cz_B_beginOpening 0 = .ok (.aload_n 0, 1) := by decide +kernel
theorem dz_B_beginOpening_1 : decode cz_B_beginOpening 1 = .ok (.iload_n 1, 1) := by decide +kernel
theorem dz_B_beginOpening_2 : decode cz_B_beginOpening 2 = .ok (.putfield 9, 3) := by decide +kernel
theorem dz_B_beginOpening_5 : decode cz_B_beginOpening 5 = .ok (.aload_n 0, 1) := by decide +kernel
theorem dz_B_beginOpening_6 : decode cz_B_beginOpening 6 = .ok (.lload_n 2, 1) := by decide +kernel
theorem dz_B_beginOpening_7 : decode cz_B_beginOpening 7 = .ok (.putfield 15, 3) := by decide +kernel
theorem dz_B_beginOpening_10 : decode cz_B_beginOpening 10 = .ok (.aload_n 0, 1) := by decide +kernel
theorem dz_B_beginOpening_11 : decode cz_B_beginOpening 11 = .ok (.iconst 0, 1) := by decide +kernel
theorem dz_B_beginOpening_12 : decode cz_B_beginOpening 12 = .ok (.putfield 19, 3) := by decide +kernel
theorem dz_B_beginOpening_15 : decode cz_B_beginOpening 15 = .ok (.return_, 1) := by decide +kernel
theorem dz_B_receive_0 : decode cz_B_receive 0 = .ok (.aload_n 0, 1) := by decide +kernel
theorem dz_B_receive_1 : decode cz_B_receive 1 = .ok (.iload_n 1, 1) := by decide +kernel
theorem dz_B_receive_2 : decode cz_B_receive 2 = .ok (.putfield 23, 3) := by decide +kernel
theorem dz_B_receive_5 : decode cz_B_receive 5 = .ok (.aload_n 0, 1) := by decide +kernel
theorem dz_B_receive_6 : decode cz_B_receive 6 = .ok (.lconst 0, 1) := by decide +kernel
theorem dz_B_receive_7 : decode cz_B_receive 7 = .ok (.putfield 35, 3) := by decide +kernel
theorem dz_B_receive_10 : decode cz_B_receive 10 = .ok (.return_, 1) := by decide +kernel
theorem dz_B_layDown_0 : decode cz_B_layDown 0 = .ok (.aload_n 0, 1) := by decide +kernel
theorem dz_B_layDown_1 : decode cz_B_layDown 1 = .ok (.iload_n 1, 1) := by decide +kernel
theorem dz_B_layDown_2 : decode cz_B_layDown 2 = .ok (.putfield 26, 3) := by decide +kernel
theorem dz_B_layDown_5 : decode cz_B_layDown 5 = .ok (.aload_n 0, 1) := by decide +kernel
theorem dz_B_layDown_6 : decode cz_B_layDown 6 = .ok (.lload_n 2, 1) := by decide +kernel
theorem dz_B_layDown_7 : decode cz_B_layDown 7 = .ok (.putfield 29, 3) := by decide +kernel
theorem dz_B_layDown_10 : decode cz_B_layDown 10 = .ok (.return_, 1) := by decide +kernel
theorem dz_B_clear_0 : decode cz_B_clear 0 = .ok (.aload_n 0, 1) := by decide +kernel
theorem dz_B_clear_1 : decode cz_B_clear 1 = .ok (.iconst 0, 1) := by decide +kernel
theorem dz_B_clear_2 : decode cz_B_clear 2 = .ok (.putfield 23, 3) := by decide +kernel
theorem dz_B_clear_5 : decode cz_B_clear 5 = .ok (.aload_n 0, 1) := by decide +kernel
theorem dz_B_clear_6 : decode cz_B_clear 6 = .ok (.iconst (-1), 1) := by decide +kernel
theorem dz_B_clear_7 : decode cz_B_clear 7 = .ok (.putfield 26, 3) := by decide +kernel
theorem dz_B_clear_10 : decode cz_B_clear 10 = .ok (.aload_n 0, 1) := by decide +kernel
theorem dz_B_clear_11 : decode cz_B_clear 11 = .ok (.iconst 0, 1) := by decide +kernel
theorem dz_B_clear_12 : decode cz_B_clear 12 = .ok (.putfield 32, 3) := by decide +kernel
theorem dz_B_clear_15 : decode cz_B_clear 15 = .ok (.return_, 1) := by decide +kernel
theorem dz_B_freeIfDue_0 : decode cz_B_freeIfDue 0 = .ok (.aload_n 0, 1) := by decide +kernel
theorem dz_B_freeIfDue_1 : decode cz_B_freeIfDue 1 = .ok (.getfield 35, 3) := by decide +kernel
theorem dz_B_freeIfDue_4 : decode cz_B_freeIfDue 4 = .ok (.lconst 0, 1) := by decide +kernel
theorem dz_B_freeIfDue_5 : decode cz_B_freeIfDue 5 = .ok (.lcmp, 1) := by decide +kernel
theorem dz_B_freeIfDue_6 : decode cz_B_freeIfDue 6 = .ok (.ifCond .eq 12, 3) := by decide +kernel
theorem dz_B_freeIfDue_9 : decode cz_B_freeIfDue 9 = .ok (.aload_n 0, 1) := by decide +kernel
theorem dz_B_freeIfDue_10 : decode cz_B_freeIfDue 10 = .ok (.getfield 35, 3) := by decide +kernel
theorem dz_B_freeIfDue_13 : decode cz_B_freeIfDue 13 = .ok (.lload_n 1, 1) := by decide +kernel
theorem dz_B_freeIfDue_14 : decode cz_B_freeIfDue 14 = .ok (.lcmp, 1) := by decide +kernel
theorem dz_B_freeIfDue_15 : decode cz_B_freeIfDue 15 = .ok (.ifCond .le 5, 3) := by decide +kernel
theorem dz_B_freeIfDue_18 : decode cz_B_freeIfDue 18 = .ok (.iconst 0, 1) := by decide +kernel
theorem dz_B_freeIfDue_19 : decode cz_B_freeIfDue 19 = .ok (.ireturn, 1) := by decide +kernel
theorem dz_B_freeIfDue_20 : decode cz_B_freeIfDue 20 = .ok (.aload_n 0, 1) := by decide +kernel
theorem dz_B_freeIfDue_21 : decode cz_B_freeIfDue 21 = .ok (.lconst 0, 1) := by decide +kernel
theorem dz_B_freeIfDue_22 : decode cz_B_freeIfDue 22 = .ok (.putfield 35, 3) := by decide +kernel
theorem dz_B_freeIfDue_25 : decode cz_B_freeIfDue 25 = .ok (.iconst 1, 1) := by decide +kernel
theorem dz_B_freeIfDue_26 : decode cz_B_freeIfDue 26 = .ok (.ireturn, 1) := by decide +kernel
theorem dz_B_tellAlarms_0 : decode cz_B_tellAlarms 0 = .ok (.iconst 0, 1) := by decide +kernel
theorem dz_B_tellAlarms_1 : decode cz_B_tellAlarms 1 = .ok (.istore_n 3, 1) := by decide +kernel
theorem dz_B_tellAlarms_2 : decode cz_B_tellAlarms 2 = .ok (.aload_n 0, 1) := by decide +kernel
theorem dz_B_tellAlarms_3 : decode cz_B_tellAlarms 3 = .ok (.invokevirtual 55, 3) := by decide +kernel
theorem dz_B_tellAlarms_6 : decode cz_B_tellAlarms 6 = .ok (.ifCond .eq 31, 3) := by decide +kernel
theorem dz_B_tellAlarms_9 : decode cz_B_tellAlarms 9 = .ok (.aload_n 0, 1) := by decide +kernel
theorem dz_B_tellAlarms_10 : decode cz_B_tellAlarms 10 = .ok (.getfield 19, 3) := by decide +kernel
theorem dz_B_tellAlarms_13 : decode cz_B_tellAlarms 13 = .ok (.ifCond .ne 24, 3) := by decide +kernel
theorem dz_B_tellAlarms_16 : decode cz_B_tellAlarms 16 = .ok (.lload_n 1, 1) := by decide +kernel
theorem dz_B_tellAlarms_17 : decode cz_B_tellAlarms 17 = .ok (.aload_n 0, 1) := by decide +kernel
theorem dz_B_tellAlarms_18 : decode cz_B_tellAlarms 18 = .ok (.getfield 15, 3) := by decide +kernel
theorem dz_B_tellAlarms_21 : decode cz_B_tellAlarms 21 = .ok (.lsub, 1) := by decide +kernel
theorem dz_B_tellAlarms_22 : decode cz_B_tellAlarms 22 = .ok (.ldc2_w 58, 3) := by decide +kernel
theorem dz_B_tellAlarms_25 : decode cz_B_tellAlarms 25 = .ok (.lcmp, 1) := by decide +kernel
theorem dz_B_tellAlarms_26 : decode cz_B_tellAlarms 26 = .ok (.ifCond .lt 11, 3) := by decide +kernel
theorem dz_B_tellAlarms_29 : decode cz_B_tellAlarms 29 = .ok (.aload_n 0, 1) := by decide +kernel
theorem dz_B_tellAlarms_30 : decode cz_B_tellAlarms 30 = .ok (.iconst 1, 1) := by decide +kernel
theorem dz_B_tellAlarms_31 : decode cz_B_tellAlarms 31 = .ok (.putfield 19, 3) := by decide +kernel
theorem dz_B_tellAlarms_34 : decode cz_B_tellAlarms 34 = .ok (.iinc 3 1, 3) := by decide +kernel
theorem dz_B_tellAlarms_37 : decode cz_B_tellAlarms 37 = .ok (.aload_n 0, 1) := by decide +kernel
theorem dz_B_tellAlarms_38 : decode cz_B_tellAlarms 38 = .ok (.invokevirtual 45, 3) := by decide +kernel
theorem dz_B_tellAlarms_41 : decode cz_B_tellAlarms 41 = .ok (.ifCond .eq 31, 3) := by decide +kernel
theorem dz_B_tellAlarms_44 : decode cz_B_tellAlarms 44 = .ok (.aload_n 0, 1) := by decide +kernel
theorem dz_B_tellAlarms_45 : decode cz_B_tellAlarms 45 = .ok (.getfield 32, 3) := by decide +kernel
theorem dz_B_tellAlarms_48 : decode cz_B_tellAlarms 48 = .ok (.ifCond .ne 24, 3) := by decide +kernel
theorem dz_B_tellAlarms_51 : decode cz_B_tellAlarms 51 = .ok (.lload_n 1, 1) := by decide +kernel
theorem dz_B_tellAlarms_52 : decode cz_B_tellAlarms 52 = .ok (.aload_n 0, 1) := by decide +kernel
theorem dz_B_tellAlarms_53 : decode cz_B_tellAlarms 53 = .ok (.getfield 29, 3) := by decide +kernel
theorem dz_B_tellAlarms_56 : decode cz_B_tellAlarms 56 = .ok (.lsub, 1) := by decide +kernel
theorem dz_B_tellAlarms_57 : decode cz_B_tellAlarms 57 = .ok (.ldc2_w 60, 3) := by decide +kernel
theorem dz_B_tellAlarms_60 : decode cz_B_tellAlarms 60 = .ok (.lcmp, 1) := by decide +kernel
theorem dz_B_tellAlarms_61 : decode cz_B_tellAlarms 61 = .ok (.ifCond .lt 11, 3) := by decide +kernel
theorem dz_B_tellAlarms_64 : decode cz_B_tellAlarms 64 = .ok (.aload_n 0, 1) := by decide +kernel
theorem dz_B_tellAlarms_65 : decode cz_B_tellAlarms 65 = .ok (.iconst 1, 1) := by decide +kernel
theorem dz_B_tellAlarms_66 : decode cz_B_tellAlarms 66 = .ok (.putfield 32, 3) := by decide +kernel
theorem dz_B_tellAlarms_69 : decode cz_B_tellAlarms 69 = .ok (.iinc 3 1, 3) := by decide +kernel
theorem dz_B_tellAlarms_72 : decode cz_B_tellAlarms 72 = .ok (.iload_n 3, 1) := by decide +kernel
theorem dz_B_tellAlarms_73 : decode cz_B_tellAlarms 73 = .ok (.ireturn, 1) := by decide +kernel
theorem dz_T_init_0 : decode cz_T_init 0 = .ok (.aload_n 0, 1) := by decide +kernel
theorem dz_T_init_1 : decode cz_T_init 1 = .ok (.invokespecial 3, 3) := by decide +kernel
theorem dz_T_init_4 : decode cz_T_init 4 = .ok (.aload_n 0, 1) := by decide +kernel
theorem dz_T_init_5 : decode cz_T_init 5 = .ok (.sipush 200, 3) := by decide +kernel
theorem dz_T_init_8 : decode cz_T_init 8 = .ok (.newarray .int, 2) := by decide +kernel
theorem dz_T_init_10 : decode cz_T_init 10 = .ok (.putfield 11, 3) := by decide +kernel
theorem dz_T_init_13 : decode cz_T_init 13 = .ok (.aload_n 0, 1) := by decide +kernel
theorem dz_T_init_14 : decode cz_T_init 14 = .ok (.iconst 0, 1) := by decide +kernel
theorem dz_T_init_15 : decode cz_T_init 15 = .ok (.putfield 15, 3) := by decide +kernel
theorem dz_T_init_18 : decode cz_T_init 18 = .ok (.return_, 1) := by decide +kernel
theorem dz_T_length_0 : decode cz_T_length 0 = .ok (.aload_n 0, 1) := by decide +kernel
theorem dz_T_length_1 : decode cz_T_length 1 = .ok (.getfield 15, 3) := by decide +kernel
theorem dz_T_length_4 : decode cz_T_length 4 = .ok (.ireturn, 1) := by decide +kernel
theorem dz_T_append_0 : decode cz_T_append 0 = .ok (.aload_n 0, 1) := by decide +kernel
theorem dz_T_append_1 : decode cz_T_append 1 = .ok (.getfield 15, 3) := by decide +kernel
theorem dz_T_append_4 : decode cz_T_append 4 = .ok (.sipush 200, 3) := by decide +kernel
theorem dz_T_append_7 : decode cz_T_append 7 = .ok (.if_icmp .lt 5, 3) := by decide +kernel
theorem dz_T_append_10 : decode cz_T_append 10 = .ok (.iconst 0, 1) := by decide +kernel
theorem dz_T_append_11 : decode cz_T_append 11 = .ok (.ireturn, 1) := by decide +kernel
theorem dz_T_append_12 : decode cz_T_append 12 = .ok (.aload_n 0, 1) := by decide +kernel
theorem dz_T_append_13 : decode cz_T_append 13 = .ok (.getfield 11, 3) := by decide +kernel
theorem dz_T_append_16 : decode cz_T_append 16 = .ok (.aload_n 0, 1) := by decide +kernel
theorem dz_T_append_17 : decode cz_T_append 17 = .ok (.getfield 15, 3) := by decide +kernel
theorem dz_T_append_20 : decode cz_T_append 20 = .ok (.iload_n 1, 1) := by decide +kernel
theorem dz_T_append_21 : decode cz_T_append 21 = .ok (.iastore, 1) := by decide +kernel
theorem dz_T_append_22 : decode cz_T_append 22 = .ok (.aload_n 0, 1) := by decide +kernel
theorem dz_T_append_23 : decode cz_T_append 23 = .ok (.dup, 1) := by decide +kernel
theorem dz_T_append_24 : decode cz_T_append 24 = .ok (.getfield 15, 3) := by decide +kernel
theorem dz_T_append_27 : decode cz_T_append 27 = .ok (.iconst 1, 1) := by decide +kernel
theorem dz_T_append_28 : decode cz_T_append 28 = .ok (.iadd, 1) := by decide +kernel
theorem dz_T_append_29 : decode cz_T_append 29 = .ok (.putfield 15, 3) := by decide +kernel
theorem dz_T_append_32 : decode cz_T_append 32 = .ok (.iconst 1, 1) := by decide +kernel
theorem dz_T_append_33 : decode cz_T_append 33 = .ok (.ireturn, 1) := by decide +kernel
theorem dz_T_at_0 : decode cz_T_at 0 = .ok (.iload_n 1, 1) := by decide +kernel
theorem dz_T_at_1 : decode cz_T_at 1 = .ok (.ifCond .lt 20, 3) := by decide +kernel
theorem dz_T_at_4 : decode cz_T_at 4 = .ok (.iload_n 1, 1) := by decide +kernel
theorem dz_T_at_5 : decode cz_T_at 5 = .ok (.aload_n 0, 1) := by decide +kernel
theorem dz_T_at_6 : decode cz_T_at 6 = .ok (.getfield 15, 3) := by decide +kernel
theorem dz_T_at_9 : decode cz_T_at 9 = .ok (.if_icmp .ge 12, 3) := by decide +kernel
theorem dz_T_at_12 : decode cz_T_at 12 = .ok (.aload_n 0, 1) := by decide +kernel
theorem dz_T_at_13 : decode cz_T_at 13 = .ok (.getfield 11, 3) := by decide +kernel
theorem dz_T_at_16 : decode cz_T_at 16 = .ok (.iload_n 1, 1) := by decide +kernel
theorem dz_T_at_17 : decode cz_T_at 17 = .ok (.iaload, 1) := by decide +kernel
theorem dz_T_at_18 : decode cz_T_at 18 = .ok (.goto 4, 3) := by decide +kernel
theorem dz_T_at_21 : decode cz_T_at 21 = .ok (.iconst (-1), 1) := by decide +kernel
theorem dz_T_at_22 : decode cz_T_at 22 = .ok (.ireturn, 1) := by decide +kernel
theorem dz_T_dropFirst_0 : decode cz_T_dropFirst 0 = .ok (.iload_n 1, 1) := by decide +kernel
theorem dz_T_dropFirst_1 : decode cz_T_dropFirst 1 = .ok (.iconst 1, 1) := by decide +kernel
theorem dz_T_dropFirst_2 : decode cz_T_dropFirst 2 = .ok (.if_icmp .lt 11, 3) := by decide +kernel
theorem dz_T_dropFirst_5 : decode cz_T_dropFirst 5 = .ok (.iload_n 1, 1) := by decide +kernel
theorem dz_T_dropFirst_6 : decode cz_T_dropFirst 6 = .ok (.aload_n 0, 1) := by decide +kernel
theorem dz_T_dropFirst_7 : decode cz_T_dropFirst 7 = .ok (.getfield 15, 3) := by decide +kernel
theorem dz_T_dropFirst_10 : decode cz_T_dropFirst 10 = .ok (.if_icmp .le 4, 3) := by decide +kernel
theorem dz_T_dropFirst_13 : decode cz_T_dropFirst 13 = .ok (.return_, 1) := by decide +kernel
theorem dz_T_dropFirst_14 : decode cz_T_dropFirst 14 = .ok (.aload_n 0, 1) := by decide +kernel
theorem dz_T_dropFirst_15 : decode cz_T_dropFirst 15 = .ok (.getfield 11, 3) := by decide +kernel
theorem dz_T_dropFirst_18 : decode cz_T_dropFirst 18 = .ok (.iload_n 1, 1) := by decide +kernel
theorem dz_T_dropFirst_19 : decode cz_T_dropFirst 19 = .ok (.aload_n 0, 1) := by decide +kernel
theorem dz_T_dropFirst_20 : decode cz_T_dropFirst 20 = .ok (.getfield 11, 3) := by decide +kernel
theorem dz_T_dropFirst_23 : decode cz_T_dropFirst 23 = .ok (.iconst 0, 1) := by decide +kernel
theorem dz_T_dropFirst_24 : decode cz_T_dropFirst 24 = .ok (.aload_n 0, 1) := by decide +kernel
theorem dz_T_dropFirst_25 : decode cz_T_dropFirst 25 = .ok (.getfield 15, 3) := by decide +kernel
theorem dz_T_dropFirst_28 : decode cz_T_dropFirst 28 = .ok (.iload_n 1, 1) := by decide +kernel
theorem dz_T_dropFirst_29 : decode cz_T_dropFirst 29 = .ok (.isub, 1) := by decide +kernel
theorem dz_T_dropFirst_30 : decode cz_T_dropFirst 30 = .ok (.invokestatic 19, 3) := by decide +kernel
theorem dz_T_dropFirst_33 : decode cz_T_dropFirst 33 = .ok (.aload_n 0, 1) := by decide +kernel
theorem dz_T_dropFirst_34 : decode cz_T_dropFirst 34 = .ok (.dup, 1) := by decide +kernel
theorem dz_T_dropFirst_35 : decode cz_T_dropFirst 35 = .ok (.getfield 15, 3) := by decide +kernel
theorem dz_T_dropFirst_38 : decode cz_T_dropFirst 38 = .ok (.iload_n 1, 1) := by decide +kernel
theorem dz_T_dropFirst_39 : decode cz_T_dropFirst 39 = .ok (.isub, 1) := by decide +kernel
theorem dz_T_dropFirst_40 : decode cz_T_dropFirst 40 = .ok (.putfield 15, 3) := by decide +kernel
theorem dz_T_dropFirst_43 : decode cz_T_dropFirst 43 = .ok (.return_, 1) := by decide +kernel
end
section
theorem dz_M_init_0 : decode cz_M_init 0 = .ok (.aload_n 0, 1) := by decide +kernel
theorem dz_M_init_1 : decode cz_M_init 1 = .ok (.invokespecial 1, 3) := by decide +kernel
theorem dz_M_init_4 : decode cz_M_init 4 = .ok (.aload_n 0, 1) := by decide +kernel
theorem dz_M_init_5 : decode cz_M_init 5 = .ok (.bipush 61, 2) := by decide +kernel
theorem dz_M_init_7 : decode cz_M_init 7 = .ok (.newarray .int, 2) := by decide +kernel
theorem dz_M_init_9 : decode cz_M_init 9 = .ok (.putfield 7, 3) := by decide +kernel
theorem dz_M_init_12 : decode cz_M_init 12 = .ok (.aload_n 0, 1) := by decide +kernel
theorem dz_M_init_13 : decode cz_M_init 13 = .ok (.bipush 61, 2) := by decide +kernel
theorem dz_M_init_15 : decode cz_M_init 15 = .ok (.newarray .int, 2) := by decide +kernel
theorem dz_M_init_17 : decode cz_M_init 17 = .ok (.putfield 13, 3) := by decide +kernel
theorem dz_M_init_20 : decode cz_M_init 20 = .ok (.aload_n 0, 1) := by decide +kernel
theorem dz_M_init_21 : decode cz_M_init 21 = .ok (.bipush 61, 2) := by decide +kernel
theorem dz_M_init_23 : decode cz_M_init 23 = .ok (.newarray .long, 2) := by decide +kernel
theorem dz_M_init_25 : decode cz_M_init 25 = .ok (.putfield 16, 3) := by decide +kernel
theorem dz_M_init_28 : decode cz_M_init 28 = .ok (.aload_n 0, 1) := by decide +kernel
theorem dz_M_init_29 : decode cz_M_init 29 = .ok (.bipush 61, 2) := by decide +kernel
theorem dz_M_init_31 : decode cz_M_init 31 = .ok (.newarray .boolean, 2) := by decide +kernel
theorem dz_M_init_33 : decode cz_M_init 33 = .ok (.putfield 20, 3) := by decide +kernel
theorem dz_M_init_36 : decode cz_M_init 36 = .ok (.aload_n 0, 1) := by decide +kernel
theorem dz_M_init_37 : decode cz_M_init 37 = .ok (.bipush 61, 2) := by decide +kernel
theorem dz_M_init_39 : decode cz_M_init 39 = .ok (.newarray .int, 2) := by decide +kernel
theorem dz_M_init_41 : decode cz_M_init 41 = .ok (.putfield 24, 3) := by decide +kernel
theorem dz_M_init_44 : decode cz_M_init 44 = .ok (.aload_n 0, 1) := by decide +kernel
theorem dz_M_init_45 : decode cz_M_init 45 = .ok (.bipush 61, 2) := by decide +kernel
theorem dz_M_init_47 : decode cz_M_init 47 = .ok (.newarray .int, 2) := by decide +kernel
theorem dz_M_init_49 : decode cz_M_init 49 = .ok (.putfield 27, 3) := by decide +kernel
theorem dz_M_init_52 : decode cz_M_init 52 = .ok (.aload_n 0, 1) := by decide +kernel
theorem dz_M_init_53 : decode cz_M_init 53 = .ok (.bipush 61, 2) := by decide +kernel
theorem dz_M_init_55 : decode cz_M_init 55 = .ok (.newarray .long, 2) := by decide +kernel
theorem dz_M_init_57 : decode cz_M_init 57 = .ok (.putfield 30, 3) := by decide +kernel
theorem dz_M_init_60 : decode cz_M_init 60 = .ok (.aload_n 0, 1) := by decide +kernel
theorem dz_M_init_61 : decode cz_M_init 61 = .ok (.bipush 61, 2) := by decide +kernel
theorem dz_M_init_63 : decode cz_M_init 63 = .ok (.newarray .boolean, 2) := by decide +kernel
theorem dz_M_init_65 : decode cz_M_init 65 = .ok (.putfield 33, 3) := by decide +kernel
theorem dz_M_init_68 : decode cz_M_init 68 = .ok (.aload_n 0, 1) := by decide +kernel
theorem dz_M_init_69 : decode cz_M_init 69 = .ok (.bipush 61, 2) := by decide +kernel
theorem dz_M_init_71 : decode cz_M_init 71 = .ok (.newarray .long, 2) := by decide +kernel
theorem dz_M_init_73 : decode cz_M_init 73 = .ok (.putfield 36, 3) := by decide +kernel
theorem dz_M_init_76 : decode cz_M_init 76 = .ok (.aload_n 0, 1) := by decide +kernel
theorem dz_M_init_77 : decode cz_M_init 77 = .ok (.sipush 200, 3) := by decide +kernel
theorem dz_M_init_80 : decode cz_M_init 80 = .ok (.newarray .int, 2) := by decide +kernel
theorem dz_M_init_82 : decode cz_M_init 82 = .ok (.putfield 39, 3) := by decide +kernel
theorem dz_M_init_85 : decode cz_M_init 85 = .ok (.aload_n 0, 1) := by decide +kernel
theorem dz_M_init_86 : decode cz_M_init 86 = .ok (.bipush 100, 2) := by decide +kernel
theorem dz_M_init_88 : decode cz_M_init 88 = .ok (.newarray .int, 2) := by decide +kernel
theorem dz_M_init_90 : decode cz_M_init 90 = .ok (.putfield 42, 3) := by decide +kernel
theorem dz_M_init_93 : decode cz_M_init 93 = .ok (.aload_n 0, 1) := by decide +kernel
theorem dz_M_init_94 : decode cz_M_init 94 = .ok (.iconst 0, 1) := by decide +kernel
theorem dz_M_init_95 : decode cz_M_init 95 = .ok (.putfield 45, 3) := by decide +kernel
theorem dz_M_init_98 : decode cz_M_init 98 = .ok (.return_, 1) := by decide +kernel
theorem dz_M_within_0 : decode cz_M_within 0 = .ok (.lload_n 0, 1) := by decide +kernel
theorem dz_M_within_1 : decode cz_M_within 1 = .ok (.lload_n 2, 1) := by decide +kernel
theorem dz_M_within_2 : decode cz_M_within 2 = .ok (.lcmp, 1) := by decide +kernel
theorem dz_M_within_3 : decode cz_M_within 3 = .ok (.ifCond .lt 14, 3) := by decide +kernel
theorem dz_M_within_6 : decode cz_M_within 6 = .ok (.lload_n 0, 1) := by decide +kernel
theorem dz_M_within_7 : decode cz_M_within 7 = .ok (.lload 4, 2) := by decide +kernel
theorem dz_M_within_9 : decode cz_M_within 9 = .ok (.lcmp, 1) := by decide +kernel
theorem dz_M_within_10 : decode cz_M_within 10 = .ok (.ifCond .gt 7, 3) := by decide +kernel
theorem dz_M_within_13 : decode cz_M_within 13 = .ok (.iconst 1, 1) := by decide +kernel
theorem dz_M_within_14 : decode cz_M_within 14 = .ok (.goto 4, 3) := by decide +kernel
theorem dz_M_within_17 : decode cz_M_within 17 = .ok (.iconst 0, 1) := by decide +kernel
theorem dz_M_within_18 : decode cz_M_within 18 = .ok (.ireturn, 1) := by decide +kernel
theorem dz_M_isBox_0 : decode cz_M_isBox 0 = .ok (.iload_n 1, 1) := by decide +kernel
theorem dz_M_isBox_1 : decode cz_M_isBox 1 = .ok (.i2l, 1) := by decide +kernel
theorem dz_M_isBox_2 : decode cz_M_isBox 2 = .ok (.lconst 1, 1) := by decide +kernel
theorem dz_M_isBox_3 : decode cz_M_isBox 3 = .ok (.aload_n 0, 1) := by decide +kernel
theorem dz_M_isBox_4 : decode cz_M_isBox 4 = .ok (.getfield 45, 3) := by decide +kernel
theorem dz_M_isBox_7 : decode cz_M_isBox 7 = .ok (.i2l, 1) := by decide +kernel
theorem dz_M_isBox_8 : decode cz_M_isBox 8 = .ok (.invokestatic 49, 3) := by decide +kernel
theorem dz_M_isBox_11 : decode cz_M_isBox 11 = .ok (.ireturn, 1) := by decide +kernel
theorem dz_M_box_0 : decode cz_M_box 0 = .ok (.iload_n 1, 1) := by decide +kernel
theorem dz_M_box_1 : decode cz_M_box 1 = .ok (.i2l, 1) := by decide +kernel
theorem dz_M_box_2 : decode cz_M_box 2 = .ok (.lconst 1, 1) := by decide +kernel
theorem dz_M_box_3 : decode cz_M_box 3 = .ok (.ldc2_w 53, 3) := by decide +kernel
theorem dz_M_box_6 : decode cz_M_box 6 = .ok (.invokestatic 49, 3) := by decide +kernel
theorem dz_M_box_9 : decode cz_M_box 9 = .ok (.ifCond .ne 6, 3) := by decide +kernel
theorem dz_M_box_12 : decode cz_M_box 12 = .ok (.bipush (-12), 2) := by decide +kernel
theorem dz_M_box_14 : decode cz_M_box 14 = .ok (.ireturn, 1) := by decide +kernel
theorem dz_M_box_15 : decode cz_M_box 15 = .ok (.aload_n 0, 1) := by decide +kernel
theorem dz_M_box_16 : decode cz_M_box 16 = .ok (.getfield 45, 3) := by decide +kernel
theorem dz_M_box_19 : decode cz_M_box 19 = .ok (.bipush 60, 2) := by decide +kernel
theorem dz_M_box_21 : decode cz_M_box 21 = .ok (.if_icmp .ne 6, 3) := by decide +kernel
theorem dz_M_box_24 : decode cz_M_box 24 = .ok (.bipush (-14), 2) := by decide +kernel
theorem dz_M_box_26 : decode cz_M_box 26 = .ok (.ireturn, 1) := by decide +kernel
theorem dz_M_box_27 : decode cz_M_box 27 = .ok (.aload_n 0, 1) := by decide +kernel
theorem dz_M_box_28 : decode cz_M_box 28 = .ok (.dup, 1) := by decide +kernel
theorem dz_M_box_29 : decode cz_M_box 29 = .ok (.getfield 45, 3) := by decide +kernel
theorem dz_M_box_32 : decode cz_M_box 32 = .ok (.iconst 1, 1) := by decide +kernel
theorem dz_M_box_33 : decode cz_M_box 33 = .ok (.iadd, 1) := by decide +kernel
theorem dz_M_box_34 : decode cz_M_box 34 = .ok (.putfield 45, 3) := by decide +kernel
theorem dz_M_box_37 : decode cz_M_box 37 = .ok (.aload_n 0, 1) := by decide +kernel
theorem dz_M_box_38 : decode cz_M_box 38 = .ok (.getfield 7, 3) := by decide +kernel
theorem dz_M_box_41 : decode cz_M_box 41 = .ok (.aload_n 0, 1) := by decide +kernel
theorem dz_M_box_42 : decode cz_M_box 42 = .ok (.getfield 45, 3) := by decide +kernel
theorem dz_M_box_45 : decode cz_M_box 45 = .ok (.iload_n 1, 1) := by decide +kernel
theorem dz_M_box_46 : decode cz_M_box 46 = .ok (.iastore, 1) := by decide +kernel
theorem dz_M_box_47 : decode cz_M_box 47 = .ok (.aload_n 0, 1) := by decide +kernel
theorem dz_M_box_48 : decode cz_M_box 48 = .ok (.getfield 27, 3) := by decide +kernel
theorem dz_M_box_51 : decode cz_M_box 51 = .ok (.aload_n 0, 1) := by decide +kernel
theorem dz_M_box_52 : decode cz_M_box 52 = .ok (.getfield 45, 3) := by decide +kernel
theorem dz_M_box_55 : decode cz_M_box 55 = .ok (.iconst (-1), 1) := by decide +kernel
theorem dz_M_box_56 : decode cz_M_box 56 = .ok (.iastore, 1) := by decide +kernel
theorem dz_M_box_57 : decode cz_M_box 57 = .ok (.aload_n 0, 1) := by decide +kernel
theorem dz_M_box_58 : decode cz_M_box 58 = .ok (.getfield 45, 3) := by decide +kernel
theorem dz_M_box_61 : decode cz_M_box 61 = .ok (.ireturn, 1) := by decide +kernel
theorem dz_M_tape_0 : decode cz_M_tape 0 = .ok (.iload_n 1, 1) := by decide +kernel
theorem dz_M_tape_1 : decode cz_M_tape 1 = .ok (.i2l, 1) := by decide +kernel
theorem dz_M_tape_2 : decode cz_M_tape 2 = .ok (.lconst 0, 1) := by decide +kernel
theorem dz_M_tape_3 : decode cz_M_tape 3 = .ok (.ldc2_w 55, 3) := by decide +kernel
theorem dz_M_tape_6 : decode cz_M_tape 6 = .ok (.invokestatic 49, 3) := by decide +kernel
theorem dz_M_tape_9 : decode cz_M_tape 9 = .ok (.ifCond .ne 6, 3) := by decide +kernel
theorem dz_M_tape_12 : decode cz_M_tape 12 = .ok (.bipush (-12), 2) := by decide +kernel
theorem dz_M_tape_14 : decode cz_M_tape 14 = .ok (.ireturn, 1) := by decide +kernel
theorem dz_M_tape_15 : decode cz_M_tape 15 = .ok (.aload_n 0, 1) := by decide +kernel
theorem dz_M_tape_16 : decode cz_M_tape 16 = .ok (.getfield 57, 3) := by decide +kernel
theorem dz_M_tape_19 : decode cz_M_tape 19 = .ok (.sipush 200, 3) := by decide +kernel
theorem dz_M_tape_22 : decode cz_M_tape 22 = .ok (.if_icmp .ne 6, 3) := by decide +kernel
theorem dz_M_tape_25 : decode cz_M_tape 25 = .ok (.bipush (-14), 2) := by decide +kernel
theorem dz_M_tape_27 : decode cz_M_tape 27 = .ok (.ireturn, 1) := by decide +kernel
theorem dz_M_tape_28 : decode cz_M_tape 28 = .ok (.aload_n 0, 1) := by decide +kernel
theorem dz_M_tape_29 : decode cz_M_tape 29 = .ok (.getfield 39, 3) := by decide +kernel
theorem dz_M_tape_32 : decode cz_M_tape 32 = .ok (.aload_n 0, 1) := by decide +kernel
theorem dz_M_tape_33 : decode cz_M_tape 33 = .ok (.getfield 57, 3) := by decide +kernel
theorem dz_M_tape_36 : decode cz_M_tape 36 = .ok (.iload_n 1, 1) := by decide +kernel
theorem dz_M_tape_37 : decode cz_M_tape 37 = .ok (.iastore, 1) := by decide +kernel
theorem dz_M_tape_38 : decode cz_M_tape 38 = .ok (.aload_n 0, 1) := by decide +kernel
theorem dz_M_tape_39 : decode cz_M_tape 39 = .ok (.dup, 1) := by decide +kernel
theorem dz_M_tape_40 : decode cz_M_tape 40 = .ok (.getfield 57, 3) := by decide +kernel
theorem dz_M_tape_43 : decode cz_M_tape 43 = .ok (.iconst 1, 1) := by decide +kernel
theorem dz_M_tape_44 : decode cz_M_tape 44 = .ok (.iadd, 1) := by decide +kernel
theorem dz_M_tape_45 : decode cz_M_tape 45 = .ok (.putfield 57, 3) := by decide +kernel
theorem dz_M_tape_48 : decode cz_M_tape 48 = .ok (.aload_n 0, 1) := by decide +kernel
theorem dz_M_tape_49 : decode cz_M_tape 49 = .ok (.getfield 57, 3) := by decide +kernel
theorem dz_M_tape_52 : decode cz_M_tape 52 = .ok (.ireturn, 1) := by decide +kernel
theorem dz_M_isNoTime_0 : decode cz_M_isNoTime 0 = .ok (.lload_n 1, 1) := by decide +kernel
theorem dz_M_isNoTime_1 : decode cz_M_isNoTime 1 = .ok (.aload_n 0, 1) := by decide +kernel
theorem dz_M_isNoTime_2 : decode cz_M_isNoTime 2 = .ok (.getfield 60, 3) := by decide +kernel
theorem dz_M_isNoTime_5 : decode cz_M_isNoTime 5 = .ok (.lcmp, 1) := by decide +kernel
theorem dz_M_isNoTime_6 : decode cz_M_isNoTime 6 = .ok (.ifCond .lt 11, 3) := by decide +kernel
theorem dz_M_isNoTime_9 : decode cz_M_isNoTime 9 = .ok (.lload_n 1, 1) := by decide +kernel
theorem dz_M_isNoTime_10 : decode cz_M_isNoTime 10 = .ok (.ldc2_w 64, 3) := by decide +kernel
theorem dz_M_isNoTime_13 : decode cz_M_isNoTime 13 = .ok (.lcmp, 1) := by decide +kernel
theorem dz_M_isNoTime_14 : decode cz_M_isNoTime 14 = .ok (.ifCond .le 7, 3) := by decide +kernel
theorem dz_M_isNoTime_17 : decode cz_M_isNoTime 17 = .ok (.iconst 1, 1) := by decide +kernel
theorem dz_M_isNoTime_18 : decode cz_M_isNoTime 18 = .ok (.goto 4, 3) := by decide +kernel
theorem dz_M_isNoTime_21 : decode cz_M_isNoTime 21 = .ok (.iconst 0, 1) := by decide +kernel
theorem dz_M_isNoTime_22 : decode cz_M_isNoTime 22 = .ok (.ireturn, 1) := by decide +kernel
theorem dz_M_pass_0 : decode cz_M_pass 0 = .ok (.aload_n 0, 1) := by decide +kernel
theorem dz_M_pass_1 : decode cz_M_pass 1 = .ok (.lload_n 1, 1) := by decide +kernel
theorem dz_M_pass_2 : decode cz_M_pass 2 = .ok (.putfield 60, 3) := by decide +kernel
theorem dz_M_pass_5 : decode cz_M_pass 5 = .ok (.iconst 1, 1) := by decide +kernel
theorem dz_M_pass_6 : decode cz_M_pass 6 = .ok (.istore_n 3, 1) := by decide +kernel
theorem dz_M_pass_7 : decode cz_M_pass 7 = .ok (.iload_n 3, 1) := by decide +kernel
theorem dz_M_pass_8 : decode cz_M_pass 8 = .ok (.aload_n 0, 1) := by decide +kernel
theorem dz_M_pass_9 : decode cz_M_pass 9 = .ok (.getfield 45, 3) := by decide +kernel
theorem dz_M_pass_12 : decode cz_M_pass 12 = .ok (.if_icmp .gt 190, 3) := by decide +kernel
theorem dz_M_pass_15 : decode cz_M_pass 15 = .ok (.aload_n 0, 1) := by decide +kernel
theorem dz_M_pass_16 : decode cz_M_pass 16 = .ok (.getfield 36, 3) := by decide +kernel
theorem dz_M_pass_19 : decode cz_M_pass 19 = .ok (.iload_n 3, 1) := by decide +kernel
theorem dz_M_pass_20 : decode cz_M_pass 20 = .ok (.laload, 1) := by decide +kernel
theorem dz_M_pass_21 : decode cz_M_pass 21 = .ok (.lconst 0, 1) := by decide +kernel
theorem dz_M_pass_22 : decode cz_M_pass 22 = .ok (.lcmp, 1) := by decide +kernel
theorem dz_M_pass_23 : decode cz_M_pass 23 = .ok (.ifCond .le 50, 3) := by decide +kernel
theorem dz_M_pass_26 : decode cz_M_pass 26 = .ok (.aload_n 0, 1) := by decide +kernel
theorem dz_M_pass_27 : decode cz_M_pass 27 = .ok (.getfield 36, 3) := by decide +kernel
theorem dz_M_pass_30 : decode cz_M_pass 30 = .ok (.iload_n 3, 1) := by decide +kernel
theorem dz_M_pass_31 : decode cz_M_pass 31 = .ok (.laload, 1) := by decide +kernel
theorem dz_M_pass_32 : decode cz_M_pass 32 = .ok (.lload_n 1, 1) := by decide +kernel
theorem dz_M_pass_33 : decode cz_M_pass 33 = .ok (.lcmp, 1) := by decide +kernel
theorem dz_M_pass_34 : decode cz_M_pass 34 = .ok (.ifCond .gt 39, 3) := by decide +kernel
theorem dz_M_pass_37 : decode cz_M_pass 37 = .ok (.aload_n 0, 1) := by decide +kernel
theorem dz_M_pass_38 : decode cz_M_pass 38 = .ok (.getfield 36, 3) := by decide +kernel
theorem dz_M_pass_41 : decode cz_M_pass 41 = .ok (.iload_n 3, 1) := by decide +kernel
theorem dz_M_pass_42 : decode cz_M_pass 42 = .ok (.lconst 0, 1) := by decide +kernel
theorem dz_M_pass_43 : decode cz_M_pass 43 = .ok (.lastore, 1) := by decide +kernel
theorem dz_M_pass_44 : decode cz_M_pass 44 = .ok (.aload_n 0, 1) := by decide +kernel
theorem dz_M_pass_45 : decode cz_M_pass 45 = .ok (.getfield 66, 3) := by decide +kernel
theorem dz_M_pass_48 : decode cz_M_pass 48 = .ok (.bipush 100, 2) := by decide +kernel
theorem dz_M_pass_50 : decode cz_M_pass 50 = .ok (.if_icmp .ge 23, 3) := by decide +kernel
theorem dz_M_pass_53 : decode cz_M_pass 53 = .ok (.aload_n 0, 1) := by decide +kernel
theorem dz_M_pass_54 : decode cz_M_pass 54 = .ok (.getfield 42, 3) := by decide +kernel
theorem dz_M_pass_57 : decode cz_M_pass 57 = .ok (.aload_n 0, 1) := by decide +kernel
theorem dz_M_pass_58 : decode cz_M_pass 58 = .ok (.getfield 66, 3) := by decide +kernel
theorem dz_M_pass_61 : decode cz_M_pass 61 = .ok (.iload_n 3, 1) := by decide +kernel
theorem dz_M_pass_62 : decode cz_M_pass 62 = .ok (.iastore, 1) := by decide +kernel
theorem dz_M_pass_63 : decode cz_M_pass 63 = .ok (.aload_n 0, 1) := by decide +kernel
theorem dz_M_pass_64 : decode cz_M_pass 64 = .ok (.dup, 1) := by decide +kernel
theorem dz_M_pass_65 : decode cz_M_pass 65 = .ok (.getfield 66, 3) := by decide +kernel
theorem dz_M_pass_68 : decode cz_M_pass 68 = .ok (.iconst 1, 1) := by decide +kernel
theorem dz_M_pass_69 : decode cz_M_pass 69 = .ok (.iadd, 1) := by decide +kernel
theorem dz_M_pass_70 : decode cz_M_pass 70 = .ok (.putfield 66, 3) := by decide +kernel
theorem dz_M_pass_73 : decode cz_M_pass 73 = .ok (.aload_n 0, 1) := by decide +kernel
theorem dz_M_pass_74 : decode cz_M_pass 74 = .ok (.getfield 13, 3) := by decide +kernel
theorem dz_M_pass_77 : decode cz_M_pass 77 = .ok (.iload_n 3, 1) := by decide +kernel
theorem dz_M_pass_78 : decode cz_M_pass 78 = .ok (.iaload, 1) := by decide +kernel
theorem dz_M_pass_79 : decode cz_M_pass 79 = .ok (.iconst 1, 1) := by decide +kernel
theorem dz_M_pass_80 : decode cz_M_pass 80 = .ok (.if_icmp .eq 13, 3) := by decide +kernel
theorem dz_M_pass_83 : decode cz_M_pass 83 = .ok (.aload_n 0, 1) := by decide +kernel
theorem dz_M_pass_84 : decode cz_M_pass 84 = .ok (.getfield 13, 3) := by decide +kernel
theorem dz_M_pass_87 : decode cz_M_pass 87 = .ok (.iload_n 3, 1) := by decide +kernel
theorem dz_M_pass_88 : decode cz_M_pass 88 = .ok (.iaload, 1) := by decide +kernel
theorem dz_M_pass_89 : decode cz_M_pass 89 = .ok (.iconst 2, 1) := by decide +kernel
theorem dz_M_pass_90 : decode cz_M_pass 90 = .ok (.if_icmp .ne 7, 3) := by decide +kernel
theorem dz_M_pass_93 : decode cz_M_pass 93 = .ok (.iconst 1, 1) := by decide +kernel
theorem dz_M_pass_94 : decode cz_M_pass 94 = .ok (.goto 4, 3) := by decide +kernel
theorem dz_M_pass_97 : decode cz_M_pass 97 = .ok (.iconst 0, 1) := by decide +kernel
theorem dz_M_pass_98 : decode cz_M_pass 98 = .ok (.istore 4, 2) := by decide +kernel
theorem dz_M_pass_100 : decode cz_M_pass 100 = .ok (.iload 4, 2) := by decide +kernel
theorem dz_M_pass_102 : decode cz_M_pass 102 = .ok (.ifCond .eq 44, 3) := by decide +kernel
theorem dz_M_pass_105 : decode cz_M_pass 105 = .ok (.aload_n 0, 1) := by decide +kernel
theorem dz_M_pass_106 : decode cz_M_pass 106 = .ok (.getfield 20, 3) := by decide +kernel
theorem dz_M_pass_109 : decode cz_M_pass 109 = .ok (.iload_n 3, 1) := by decide +kernel
theorem dz_M_pass_110 : decode cz_M_pass 110 = .ok (.baload, 1) := by decide +kernel
theorem dz_M_pass_111 : decode cz_M_pass 111 = .ok (.ifCond .ne 35, 3) := by decide +kernel
theorem dz_M_pass_114 : decode cz_M_pass 114 = .ok (.lload_n 1, 1) := by decide +kernel
theorem dz_M_pass_115 : decode cz_M_pass 115 = .ok (.aload_n 0, 1) := by decide +kernel
theorem dz_M_pass_116 : decode cz_M_pass 116 = .ok (.getfield 16, 3) := by decide +kernel
theorem dz_M_pass_119 : decode cz_M_pass 119 = .ok (.iload_n 3, 1) := by decide +kernel
theorem dz_M_pass_120 : decode cz_M_pass 120 = .ok (.laload, 1) := by decide +kernel
theorem dz_M_pass_121 : decode cz_M_pass 121 = .ok (.lsub, 1) := by decide +kernel
theorem dz_M_pass_122 : decode cz_M_pass 122 = .ok (.ldc2_w 69, 3) := by decide +kernel
theorem dz_M_pass_125 : decode cz_M_pass 125 = .ok (.lcmp, 1) := by decide +kernel
theorem dz_M_pass_126 : decode cz_M_pass 126 = .ok (.ifCond .lt 20, 3) := by decide +kernel
theorem dz_M_pass_129 : decode cz_M_pass 129 = .ok (.aload_n 0, 1) := by decide +kernel
theorem dz_M_pass_130 : decode cz_M_pass 130 = .ok (.getfield 20, 3) := by decide +kernel
theorem dz_M_pass_133 : decode cz_M_pass 133 = .ok (.iload_n 3, 1) := by decide +kernel
theorem dz_M_pass_134 : decode cz_M_pass 134 = .ok (.iconst 1, 1) := by decide +kernel
theorem dz_M_pass_135 : decode cz_M_pass 135 = .ok (.bastore, 1) := by decide +kernel
theorem dz_M_pass_136 : decode cz_M_pass 136 = .ok (.aload_n 0, 1) := by decide +kernel
theorem dz_M_pass_137 : decode cz_M_pass 137 = .ok (.dup, 1) := by decide +kernel
theorem dz_M_pass_138 : decode cz_M_pass 138 = .ok (.getfield 71, 3) := by decide +kernel
theorem dz_M_pass_141 : decode cz_M_pass 141 = .ok (.iconst 1, 1) := by decide +kernel
theorem dz_M_pass_142 : decode cz_M_pass 142 = .ok (.iadd, 1) := by decide +kernel
theorem dz_M_pass_143 : decode cz_M_pass 143 = .ok (.putfield 71, 3) := by decide +kernel
theorem dz_M_pass_146 : decode cz_M_pass 146 = .ok (.aload_n 0, 1) := by decide +kernel
theorem dz_M_pass_147 : decode cz_M_pass 147 = .ok (.getfield 27, 3) := by decide +kernel
theorem dz_M_pass_150 : decode cz_M_pass 150 = .ok (.iload_n 3, 1) := by decide +kernel
theorem dz_M_pass_151 : decode cz_M_pass 151 = .ok (.iaload, 1) := by decide +kernel
theorem dz_M_pass_152 : decode cz_M_pass 152 = .ok (.ifCond .lt 44, 3) := by decide +kernel
theorem dz_M_pass_155 : decode cz_M_pass 155 = .ok (.aload_n 0, 1) := by decide +kernel
theorem dz_M_pass_156 : decode cz_M_pass 156 = .ok (.getfield 33, 3) := by decide +kernel
theorem dz_M_pass_159 : decode cz_M_pass 159 = .ok (.iload_n 3, 1) := by decide +kernel
theorem dz_M_pass_160 : decode cz_M_pass 160 = .ok (.baload, 1) := by decide +kernel
theorem dz_M_pass_161 : decode cz_M_pass 161 = .ok (.ifCond .ne 35, 3) := by decide +kernel
theorem dz_M_pass_164 : decode cz_M_pass 164 = .ok (.lload_n 1, 1) := by decide +kernel
theorem dz_M_pass_165 : decode cz_M_pass 165 = .ok (.aload_n 0, 1) := by decide +kernel
theorem dz_M_pass_166 : decode cz_M_pass 166 = .ok (.getfield 30, 3) := by decide +kernel
theorem dz_M_pass_169 : decode cz_M_pass 169 = .ok (.iload_n 3, 1) := by decide +kernel
theorem dz_M_pass_170 : decode cz_M_pass 170 = .ok (.laload, 1) := by decide +kernel
theorem dz_M_pass_171 : decode cz_M_pass 171 = .ok (.lsub, 1) := by decide +kernel
theorem dz_M_pass_172 : decode cz_M_pass 172 = .ok (.ldc2_w 74, 3) := by decide +kernel
theorem dz_M_pass_175 : decode cz_M_pass 175 = .ok (.lcmp, 1) := by decide +kernel
theorem dz_M_pass_176 : decode cz_M_pass 176 = .ok (.ifCond .lt 20, 3) := by decide +kernel
theorem dz_M_pass_179 : decode cz_M_pass 179 = .ok (.aload_n 0, 1) := by decide +kernel
theorem dz_M_pass_180 : decode cz_M_pass 180 = .ok (.getfield 33, 3) := by decide +kernel
theorem dz_M_pass_183 : decode cz_M_pass 183 = .ok (.iload_n 3, 1) := by decide +kernel
theorem dz_M_pass_184 : decode cz_M_pass 184 = .ok (.iconst 1, 1) := by decide +kernel
theorem dz_M_pass_185 : decode cz_M_pass 185 = .ok (.bastore, 1) := by decide +kernel
theorem dz_M_pass_186 : decode cz_M_pass 186 = .ok (.aload_n 0, 1) := by decide +kernel
theorem dz_M_pass_187 : decode cz_M_pass 187 = .ok (.dup, 1) := by decide +kernel
theorem dz_M_pass_188 : decode cz_M_pass 188 = .ok (.getfield 71, 3) := by decide +kernel
theorem dz_M_pass_191 : decode cz_M_pass 191 = .ok (.iconst 1, 1) := by decide +kernel
theorem dz_M_pass_192 : decode cz_M_pass 192 = .ok (.iadd, 1) := by decide +kernel
theorem dz_M_pass_193 : decode cz_M_pass 193 = .ok (.putfield 71, 3) := by decide +kernel
theorem dz_M_pass_196 : decode cz_M_pass 196 = .ok (.iinc 3 1, 3) := by decide +kernel
theorem dz_M_pass_199 : decode cz_M_pass 199 = .ok (.goto (-192), 3) := by decide +kernel
theorem dz_M_pass_202 : decode cz_M_pass 202 = .ok (.return_, 1) := by decide +kernel
theorem dz_M_reserve_0 : decode cz_M_reserve 0 = .ok (.iload_n 1, 1) := by decide +kernel
theorem dz_M_reserve_1 : decode cz_M_reserve 1 = .ok (.i2l, 1) := by decide +kernel
theorem dz_M_reserve_2 : decode cz_M_reserve 2 = .ok (.lconst 1, 1) := by decide +kernel
theorem dz_M_reserve_3 : decode cz_M_reserve 3 = .ok (.ldc2_w 53, 3) := by decide +kernel
theorem dz_M_reserve_6 : decode cz_M_reserve 6 = .ok (.invokestatic 49, 3) := by decide +kernel
theorem dz_M_reserve_9 : decode cz_M_reserve 9 = .ok (.ifCond .eq 20, 3) := by decide +kernel
theorem dz_M_reserve_12 : decode cz_M_reserve 12 = .ok (.lload_n 2, 1) := by decide +kernel
theorem dz_M_reserve_13 : decode cz_M_reserve 13 = .ok (.aload_n 0, 1) := by decide +kernel
theorem dz_M_reserve_14 : decode cz_M_reserve 14 = .ok (.getfield 60, 3) := by decide +kernel
theorem dz_M_reserve_17 : decode cz_M_reserve 17 = .ok (.lcmp, 1) := by decide +kernel
theorem dz_M_reserve_18 : decode cz_M_reserve 18 = .ok (.ifCond .le 11, 3) := by decide +kernel
theorem dz_M_reserve_21 : decode cz_M_reserve 21 = .ok (.lload_n 2, 1) := by decide +kernel
theorem dz_M_reserve_22 : decode cz_M_reserve 22 = .ok (.ldc2_w 64, 3) := by decide +kernel
theorem dz_M_reserve_25 : decode cz_M_reserve 25 = .ok (.lcmp, 1) := by decide +kernel
theorem dz_M_reserve_26 : decode cz_M_reserve 26 = .ok (.ifCond .le 6, 3) := by decide +kernel
theorem dz_M_reserve_29 : decode cz_M_reserve 29 = .ok (.bipush (-12), 2) := by decide +kernel
theorem dz_M_reserve_31 : decode cz_M_reserve 31 = .ok (.ireturn, 1) := by decide +kernel
theorem dz_M_reserve_32 : decode cz_M_reserve 32 = .ok (.iconst 0, 1) := by decide +kernel
theorem dz_M_reserve_33 : decode cz_M_reserve 33 = .ok (.istore 4, 2) := by decide +kernel
theorem dz_M_reserve_35 : decode cz_M_reserve 35 = .ok (.iconst 1, 1) := by decide +kernel
theorem dz_M_reserve_36 : decode cz_M_reserve 36 = .ok (.istore 5, 2) := by decide +kernel
theorem dz_M_reserve_38 : decode cz_M_reserve 38 = .ok (.iload 5, 2) := by decide +kernel
theorem dz_M_reserve_40 : decode cz_M_reserve 40 = .ok (.aload_n 0, 1) := by decide +kernel
theorem dz_M_reserve_41 : decode cz_M_reserve 41 = .ok (.getfield 45, 3) := by decide +kernel
theorem dz_M_reserve_44 : decode cz_M_reserve 44 = .ok (.if_icmp .gt 95, 3) := by decide +kernel
theorem dz_M_reserve_47 : decode cz_M_reserve 47 = .ok (.aload_n 0, 1) := by decide +kernel
theorem dz_M_reserve_48 : decode cz_M_reserve 48 = .ok (.getfield 13, 3) := by decide +kernel
theorem dz_M_reserve_51 : decode cz_M_reserve 51 = .ok (.iload 5, 2) := by decide +kernel
theorem dz_M_reserve_53 : decode cz_M_reserve 53 = .ok (.iaload, 1) := by decide +kernel
theorem dz_M_reserve_54 : decode cz_M_reserve 54 = .ok (.ifCond .ne 40, 3) := by decide +kernel
theorem dz_M_reserve_57 : decode cz_M_reserve 57 = .ok (.aload_n 0, 1) := by decide +kernel
theorem dz_M_reserve_58 : decode cz_M_reserve 58 = .ok (.getfield 24, 3) := by decide +kernel
theorem dz_M_reserve_61 : decode cz_M_reserve 61 = .ok (.iload 5, 2) := by decide +kernel
theorem dz_M_reserve_63 : decode cz_M_reserve 63 = .ok (.iaload, 1) := by decide +kernel
theorem dz_M_reserve_64 : decode cz_M_reserve 64 = .ok (.ifCond .ne 30, 3) := by decide +kernel
theorem dz_M_reserve_67 : decode cz_M_reserve 67 = .ok (.aload_n 0, 1) := by decide +kernel
theorem dz_M_reserve_68 : decode cz_M_reserve 68 = .ok (.getfield 36, 3) := by decide +kernel
theorem dz_M_reserve_71 : decode cz_M_reserve 71 = .ok (.iload 5, 2) := by decide +kernel
theorem dz_M_reserve_73 : decode cz_M_reserve 73 = .ok (.laload, 1) := by decide +kernel
theorem dz_M_reserve_74 : decode cz_M_reserve 74 = .ok (.lconst 0, 1) := by decide +kernel
theorem dz_M_reserve_75 : decode cz_M_reserve 75 = .ok (.lcmp, 1) := by decide +kernel
theorem dz_M_reserve_76 : decode cz_M_reserve 76 = .ok (.ifCond .ne 18, 3) := by decide +kernel
theorem dz_M_reserve_79 : decode cz_M_reserve 79 = .ok (.aload_n 0, 1) := by decide +kernel
theorem dz_M_reserve_80 : decode cz_M_reserve 80 = .ok (.getfield 7, 3) := by decide +kernel
theorem dz_M_reserve_83 : decode cz_M_reserve 83 = .ok (.iload 5, 2) := by decide +kernel
theorem dz_M_reserve_85 : decode cz_M_reserve 85 = .ok (.iaload, 1) := by decide +kernel
theorem dz_M_reserve_86 : decode cz_M_reserve 86 = .ok (.iload_n 1, 1) := by decide +kernel
theorem dz_M_reserve_87 : decode cz_M_reserve 87 = .ok (.if_icmp .lt 7, 3) := by decide +kernel
theorem dz_M_reserve_90 : decode cz_M_reserve 90 = .ok (.iconst 1, 1) := by decide +kernel
theorem dz_M_reserve_91 : decode cz_M_reserve 91 = .ok (.goto 4, 3) := by decide +kernel
theorem dz_M_reserve_94 : decode cz_M_reserve 94 = .ok (.iconst 0, 1) := by decide +kernel
theorem dz_M_reserve_95 : decode cz_M_reserve 95 = .ok (.istore 6, 2) := by decide +kernel
theorem dz_M_reserve_97 : decode cz_M_reserve 97 = .ok (.iload 6, 2) := by decide +kernel
theorem dz_M_reserve_99 : decode cz_M_reserve 99 = .ok (.ifCond .eq 30, 3) := by decide +kernel
theorem dz_M_reserve_102 : decode cz_M_reserve 102 = .ok (.iload 4, 2) := by decide +kernel
theorem dz_M_reserve_104 : decode cz_M_reserve 104 = .ok (.ifCond .eq 20, 3) := by decide +kernel
theorem dz_M_reserve_107 : decode cz_M_reserve 107 = .ok (.aload_n 0, 1) := by decide +kernel
theorem dz_M_reserve_108 : decode cz_M_reserve 108 = .ok (.getfield 7, 3) := by decide +kernel
theorem dz_M_reserve_111 : decode cz_M_reserve 111 = .ok (.iload 5, 2) := by decide +kernel
theorem dz_M_reserve_113 : decode cz_M_reserve 113 = .ok (.iaload, 1) := by decide +kernel
theorem dz_M_reserve_114 : decode cz_M_reserve 114 = .ok (.aload_n 0, 1) := by decide +kernel
theorem dz_M_reserve_115 : decode cz_M_reserve 115 = .ok (.getfield 7, 3) := by decide +kernel
theorem dz_M_reserve_118 : decode cz_M_reserve 118 = .ok (.iload 4, 2) := by decide +kernel
theorem dz_M_reserve_120 : decode cz_M_reserve 120 = .ok (.iaload, 1) := by decide +kernel
theorem dz_M_reserve_121 : decode cz_M_reserve 121 = .ok (.if_icmp .ge 8, 3) := by decide +kernel
theorem dz_M_reserve_124 : decode cz_M_reserve 124 = .ok (.iload 5, 2) := by decide +kernel
theorem dz_M_reserve_126 : decode cz_M_reserve 126 = .ok (.goto 5, 3) := by decide +kernel
theorem dz_M_reserve_129 : decode cz_M_reserve 129 = .ok (.iload 4, 2) := by decide +kernel
theorem dz_M_reserve_131 : decode cz_M_reserve 131 = .ok (.istore 4, 2) := by decide +kernel
theorem dz_M_reserve_133 : decode cz_M_reserve 133 = .ok (.iinc 5 1, 3) := by decide +kernel
theorem dz_M_reserve_136 : decode cz_M_reserve 136 = .ok (.goto (-98), 3) := by decide +kernel
theorem dz_M_reserve_139 : decode cz_M_reserve 139 = .ok (.iload 4, 2) := by decide +kernel
theorem dz_M_reserve_141 : decode cz_M_reserve 141 = .ok (.ifCond .le 11, 3) := by decide +kernel
theorem dz_M_reserve_144 : decode cz_M_reserve 144 = .ok (.aload_n 0, 1) := by decide +kernel
theorem dz_M_reserve_145 : decode cz_M_reserve 145 = .ok (.getfield 36, 3) := by decide +kernel
theorem dz_M_reserve_148 : decode cz_M_reserve 148 = .ok (.iload 4, 2) := by decide +kernel
theorem dz_M_reserve_150 : decode cz_M_reserve 150 = .ok (.lload_n 2, 1) := by decide +kernel
theorem dz_M_reserve_151 : decode cz_M_reserve 151 = .ok (.lastore, 1) := by decide +kernel
theorem dz_M_reserve_152 : decode cz_M_reserve 152 = .ok (.iload 4, 2) := by decide +kernel
theorem dz_M_reserve_154 : decode cz_M_reserve 154 = .ok (.ireturn, 1) := by decide +kernel
theorem dz_M_put_0 : decode cz_M_put 0 = .ok (.aload_n 0, 1) := by decide +kernel
theorem dz_M_put_1 : decode cz_M_put 1 = .ok (.iload_n 1, 1) := by decide +kernel
theorem dz_M_put_2 : decode cz_M_put 2 = .ok (.invokevirtual 76, 3) := by decide +kernel
theorem dz_M_put_5 : decode cz_M_put 5 = .ok (.ifCond .ne 6, 3) := by decide +kernel
theorem dz_M_put_8 : decode cz_M_put 8 = .ok (.bipush (-11), 2) := by decide +kernel
theorem dz_M_put_10 : decode cz_M_put 10 = .ok (.ireturn, 1) := by decide +kernel
theorem dz_M_put_11 : decode cz_M_put 11 = .ok (.iload_n 2, 1) := by decide +kernel
theorem dz_M_put_12 : decode cz_M_put 12 = .ok (.i2l, 1) := by decide +kernel
theorem dz_M_put_13 : decode cz_M_put 13 = .ok (.lconst 1, 1) := by decide +kernel
theorem dz_M_put_14 : decode cz_M_put 14 = .ok (.ldc2_w 80, 3) := by decide +kernel
theorem dz_M_put_17 : decode cz_M_put 17 = .ok (.invokestatic 49, 3) := by decide +kernel
theorem dz_M_put_20 : decode cz_M_put 20 = .ok (.ifCond .eq 11, 3) := by decide +kernel
theorem dz_M_put_23 : decode cz_M_put 23 = .ok (.aload_n 0, 1) := by decide +kernel
theorem dz_M_put_24 : decode cz_M_put 24 = .ok (.lload_n 3, 1) := by decide +kernel
theorem dz_M_put_25 : decode cz_M_put 25 = .ok (.invokevirtual 82, 3) := by decide +kernel
theorem dz_M_put_28 : decode cz_M_put 28 = .ok (.ifCond .eq 6, 3) := by decide +kernel
theorem dz_M_put_31 : decode cz_M_put 31 = .ok (.bipush (-12), 2) := by decide +kernel
theorem dz_M_put_33 : decode cz_M_put 33 = .ok (.ireturn, 1) := by decide +kernel
theorem dz_M_put_34 : decode cz_M_put 34 = .ok (.aload_n 0, 1) := by decide +kernel
theorem dz_M_put_35 : decode cz_M_put 35 = .ok (.lload_n 3, 1) := by decide +kernel
theorem dz_M_put_36 : decode cz_M_put 36 = .ok (.invokevirtual 86, 3) := by decide +kernel
theorem dz_M_put_39 : decode cz_M_put 39 = .ok (.iconst 0, 1) := by decide +kernel
theorem dz_M_put_40 : decode cz_M_put 40 = .ok (.istore 5, 2) := by decide +kernel
theorem dz_M_put_42 : decode cz_M_put 42 = .ok (.iconst 1, 1) := by decide +kernel
theorem dz_M_put_43 : decode cz_M_put 43 = .ok (.istore 6, 2) := by decide +kernel
theorem dz_M_put_45 : decode cz_M_put 45 = .ok (.iload 6, 2) := by decide +kernel
theorem dz_M_put_47 : decode cz_M_put 47 = .ok (.aload_n 0, 1) := by decide +kernel
theorem dz_M_put_48 : decode cz_M_put 48 = .ok (.getfield 45, 3) := by decide +kernel
theorem dz_M_put_51 : decode cz_M_put 51 = .ok (.if_icmp .gt 32, 3) := by decide +kernel
theorem dz_M_put_54 : decode cz_M_put 54 = .ok (.iload 5, 2) := by decide +kernel
theorem dz_M_put_56 : decode cz_M_put 56 = .ok (.ifCond .ne 14, 3) := by decide +kernel
theorem dz_M_put_59 : decode cz_M_put 59 = .ok (.aload_n 0, 1) := by decide +kernel
theorem dz_M_put_60 : decode cz_M_put 60 = .ok (.getfield 24, 3) := by decide +kernel
theorem dz_M_put_63 : decode cz_M_put 63 = .ok (.iload 6, 2) := by decide +kernel
theorem dz_M_put_65 : decode cz_M_put 65 = .ok (.iaload, 1) := by decide +kernel
theorem dz_M_put_66 : decode cz_M_put 66 = .ok (.iload_n 2, 1) := by decide +kernel
theorem dz_M_put_67 : decode cz_M_put 67 = .ok (.if_icmp .ne 7, 3) := by decide +kernel
theorem dz_M_put_70 : decode cz_M_put 70 = .ok (.iconst 1, 1) := by decide +kernel
theorem dz_M_put_71 : decode cz_M_put 71 = .ok (.goto 4, 3) := by decide +kernel
theorem dz_M_put_74 : decode cz_M_put 74 = .ok (.iconst 0, 1) := by decide +kernel
theorem dz_M_put_75 : decode cz_M_put 75 = .ok (.istore 5, 2) := by decide +kernel
theorem dz_M_put_77 : decode cz_M_put 77 = .ok (.iinc 6 1, 3) := by decide +kernel
theorem dz_M_put_80 : decode cz_M_put 80 = .ok (.goto (-35), 3) := by decide +kernel
theorem dz_M_put_83 : decode cz_M_put 83 = .ok (.aload_n 0, 1) := by decide +kernel
theorem dz_M_put_84 : decode cz_M_put 84 = .ok (.getfield 13, 3) := by decide +kernel
theorem dz_M_put_87 : decode cz_M_put 87 = .ok (.iload_n 1, 1) := by decide +kernel
theorem dz_M_put_88 : decode cz_M_put 88 = .ok (.iaload, 1) := by decide +kernel
theorem dz_M_put_89 : decode cz_M_put 89 = .ok (.iconst 1, 1) := by decide +kernel
theorem dz_M_put_90 : decode cz_M_put 90 = .ok (.if_icmp .ne 17, 3) := by decide +kernel
theorem dz_M_put_93 : decode cz_M_put 93 = .ok (.aload_n 0, 1) := by decide +kernel
theorem dz_M_put_94 : decode cz_M_put 94 = .ok (.getfield 24, 3) := by decide +kernel
theorem dz_M_put_97 : decode cz_M_put 97 = .ok (.iload_n 1, 1) := by decide +kernel
theorem dz_M_put_98 : decode cz_M_put 98 = .ok (.iaload, 1) := by decide +kernel
theorem dz_M_put_99 : decode cz_M_put 99 = .ok (.ifCond .gt 8, 3) := by decide +kernel
theorem dz_M_put_102 : decode cz_M_put 102 = .ok (.iload 5, 2) := by decide +kernel
theorem dz_M_put_104 : decode cz_M_put 104 = .ok (.ifCond .eq 5, 3) := by decide +kernel
theorem dz_M_put_107 : decode cz_M_put 107 = .ok (.iconst 0, 1) := by decide +kernel
theorem dz_M_put_108 : decode cz_M_put 108 = .ok (.ireturn, 1) := by decide +kernel
theorem dz_M_put_109 : decode cz_M_put 109 = .ok (.aload_n 0, 1) := by decide +kernel
theorem dz_M_put_110 : decode cz_M_put 110 = .ok (.getfield 24, 3) := by decide +kernel
theorem dz_M_put_113 : decode cz_M_put 113 = .ok (.iload_n 1, 1) := by decide +kernel
theorem dz_M_put_114 : decode cz_M_put 114 = .ok (.iload_n 2, 1) := by decide +kernel
theorem dz_M_put_115 : decode cz_M_put 115 = .ok (.iastore, 1) := by decide +kernel
theorem dz_M_put_116 : decode cz_M_put 116 = .ok (.aload_n 0, 1) := by decide +kernel
theorem dz_M_put_117 : decode cz_M_put 117 = .ok (.getfield 36, 3) := by decide +kernel
theorem dz_M_put_120 : decode cz_M_put 120 = .ok (.iload_n 1, 1) := by decide +kernel
theorem dz_M_put_121 : decode cz_M_put 121 = .ok (.lconst 0, 1) := by decide +kernel
theorem dz_M_put_122 : decode cz_M_put 122 = .ok (.lastore, 1) := by decide +kernel
theorem dz_M_put_123 : decode cz_M_put 123 = .ok (.iconst 1, 1) := by decide +kernel
theorem dz_M_put_124 : decode cz_M_put 124 = .ok (.ireturn, 1) := by decide +kernel
theorem dz_M_isCode_0 : decode cz_M_isCode 0 = .ok (.iconst 1, 1) := by decide +kernel
theorem dz_M_isCode_1 : decode cz_M_isCode 1 = .ok (.istore_n 2, 1) := by decide +kernel
theorem dz_M_isCode_2 : decode cz_M_isCode 2 = .ok (.iload_n 2, 1) := by decide +kernel
theorem dz_M_isCode_3 : decode cz_M_isCode 3 = .ok (.aload_n 0, 1) := by decide +kernel
theorem dz_M_isCode_4 : decode cz_M_isCode 4 = .ok (.getfield 45, 3) := by decide +kernel
theorem dz_M_isCode_7 : decode cz_M_isCode 7 = .ok (.if_icmp .gt 21, 3) := by decide +kernel
theorem dz_M_isCode_10 : decode cz_M_isCode 10 = .ok (.aload_n 0, 1) := by decide +kernel
theorem dz_M_isCode_11 : decode cz_M_isCode 11 = .ok (.getfield 27, 3) := by decide +kernel
theorem dz_M_isCode_14 : decode cz_M_isCode 14 = .ok (.iload_n 2, 1) := by decide +kernel
theorem dz_M_isCode_15 : decode cz_M_isCode 15 = .ok (.iaload, 1) := by decide +kernel
theorem dz_M_isCode_16 : decode cz_M_isCode 16 = .ok (.iload_n 1, 1) := by decide +kernel
theorem dz_M_isCode_17 : decode cz_M_isCode 17 = .ok (.if_icmp .ne 5, 3) := by decide +kernel
theorem dz_M_isCode_20 : decode cz_M_isCode 20 = .ok (.iconst 1, 1) := by decide +kernel
theorem dz_M_isCode_21 : decode cz_M_isCode 21 = .ok (.ireturn, 1) := by decide +kernel
theorem dz_M_isCode_22 : decode cz_M_isCode 22 = .ok (.iinc 2 1, 3) := by decide +kernel
theorem dz_M_isCode_25 : decode cz_M_isCode 25 = .ok (.goto (-23), 3) := by decide +kernel
theorem dz_M_isCode_28 : decode cz_M_isCode 28 = .ok (.iconst 0, 1) := by decide +kernel
theorem dz_M_isCode_29 : decode cz_M_isCode 29 = .ok (.ireturn, 1) := by decide +kernel
theorem dz_M_close_0 : decode cz_M_close 0 = .ok (.aload_n 0, 1) := by decide +kernel
theorem dz_M_close_1 : decode cz_M_close 1 = .ok (.iload_n 1, 1) := by decide +kernel
theorem dz_M_close_2 : decode cz_M_close 2 = .ok (.invokevirtual 76, 3) := by decide +kernel
theorem dz_M_close_5 : decode cz_M_close 5 = .ok (.ifCond .ne 6, 3) := by decide +kernel
theorem dz_M_close_8 : decode cz_M_close 8 = .ok (.bipush (-11), 2) := by decide +kernel
theorem dz_M_close_10 : decode cz_M_close 10 = .ok (.ireturn, 1) := by decide +kernel
theorem dz_M_close_11 : decode cz_M_close 11 = .ok (.aload_n 0, 1) := by decide +kernel
theorem dz_M_close_12 : decode cz_M_close 12 = .ok (.lload_n 2, 1) := by decide +kernel
theorem dz_M_close_13 : decode cz_M_close 13 = .ok (.invokevirtual 82, 3) := by decide +kernel
theorem dz_M_close_16 : decode cz_M_close 16 = .ok (.ifCond .eq 6, 3) := by decide +kernel
theorem dz_M_close_19 : decode cz_M_close 19 = .ok (.bipush (-12), 2) := by decide +kernel
theorem dz_M_close_21 : decode cz_M_close 21 = .ok (.ireturn, 1) := by decide +kernel
theorem dz_M_close_22 : decode cz_M_close 22 = .ok (.aload_n 0, 1) := by decide +kernel
theorem dz_M_close_23 : decode cz_M_close 23 = .ok (.lload_n 2, 1) := by decide +kernel
theorem dz_M_close_24 : decode cz_M_close 24 = .ok (.invokevirtual 86, 3) := by decide +kernel
theorem dz_M_close_27 : decode cz_M_close 27 = .ok (.aload_n 0, 1) := by decide +kernel
theorem dz_M_close_28 : decode cz_M_close 28 = .ok (.getfield 13, 3) := by decide +kernel
theorem dz_M_close_31 : decode cz_M_close 31 = .ok (.iload_n 1, 1) := by decide +kernel
theorem dz_M_close_32 : decode cz_M_close 32 = .ok (.iaload, 1) := by decide +kernel
theorem dz_M_close_33 : decode cz_M_close 33 = .ok (.iconst 1, 1) := by decide +kernel
theorem dz_M_close_34 : decode cz_M_close 34 = .ok (.if_icmp .eq 6, 3) := by decide +kernel
theorem dz_M_close_37 : decode cz_M_close 37 = .ok (.bipush (-13), 2) := by decide +kernel
theorem dz_M_close_39 : decode cz_M_close 39 = .ok (.ireturn, 1) := by decide +kernel
theorem dz_M_close_40 : decode cz_M_close 40 = .ok (.aload_n 0, 1) := by decide +kernel
theorem dz_M_close_41 : decode cz_M_close 41 = .ok (.getfield 24, 3) := by decide +kernel
theorem dz_M_close_44 : decode cz_M_close 44 = .ok (.iload_n 1, 1) := by decide +kernel
theorem dz_M_close_45 : decode cz_M_close 45 = .ok (.iaload, 1) := by decide +kernel
theorem dz_M_close_46 : decode cz_M_close 46 = .ok (.ifCond .le 16, 3) := by decide +kernel
theorem dz_M_close_49 : decode cz_M_close 49 = .ok (.aload_n 0, 1) := by decide +kernel
theorem dz_M_close_50 : decode cz_M_close 50 = .ok (.getfield 27, 3) := by decide +kernel
theorem dz_M_close_53 : decode cz_M_close 53 = .ok (.iload_n 1, 1) := by decide +kernel
theorem dz_M_close_54 : decode cz_M_close 54 = .ok (.iaload, 1) := by decide +kernel
theorem dz_M_close_55 : decode cz_M_close 55 = .ok (.ifCond .ge 7, 3) := by decide +kernel
theorem dz_M_close_58 : decode cz_M_close 58 = .ok (.iconst 1, 1) := by decide +kernel
theorem dz_M_close_59 : decode cz_M_close 59 = .ok (.goto 4, 3) := by decide +kernel
theorem dz_M_close_62 : decode cz_M_close 62 = .ok (.iconst 0, 1) := by decide +kernel
theorem dz_M_close_63 : decode cz_M_close 63 = .ok (.istore 4, 2) := by decide +kernel
theorem dz_M_close_65 : decode cz_M_close 65 = .ok (.iconst 0, 1) := by decide +kernel
theorem dz_M_close_66 : decode cz_M_close 66 = .ok (.istore 5, 2) := by decide +kernel
theorem dz_M_close_68 : decode cz_M_close 68 = .ok (.iload 4, 2) := by decide +kernel
theorem dz_M_close_70 : decode cz_M_close 70 = .ok (.ifCond .eq 32, 3) := by decide +kernel
theorem dz_M_close_73 : decode cz_M_close 73 = .ok (.iload 5, 2) := by decide +kernel
theorem dz_M_close_75 : decode cz_M_close 75 = .ok (.aload_n 0, 1) := by decide +kernel
theorem dz_M_close_76 : decode cz_M_close 76 = .ok (.getfield 57, 3) := by decide +kernel
theorem dz_M_close_79 : decode cz_M_close 79 = .ok (.if_icmp .ge 23, 3) := by decide +kernel
theorem dz_M_close_82 : decode cz_M_close 82 = .ok (.aload_n 0, 1) := by decide +kernel
theorem dz_M_close_83 : decode cz_M_close 83 = .ok (.aload_n 0, 1) := by decide +kernel
theorem dz_M_close_84 : decode cz_M_close 84 = .ok (.getfield 39, 3) := by decide +kernel
theorem dz_M_close_87 : decode cz_M_close 87 = .ok (.iload 5, 2) := by decide +kernel
theorem dz_M_close_89 : decode cz_M_close 89 = .ok (.iaload, 1) := by decide +kernel
theorem dz_M_close_90 : decode cz_M_close 90 = .ok (.invokevirtual 90, 3) := by decide +kernel
theorem dz_M_close_93 : decode cz_M_close 93 = .ok (.ifCond .eq 9, 3) := by decide +kernel
theorem dz_M_close_96 : decode cz_M_close 96 = .ok (.iinc 5 1, 3) := by decide +kernel
theorem dz_M_close_99 : decode cz_M_close 99 = .ok (.goto (-31), 3) := by decide +kernel
theorem dz_M_close_102 : decode cz_M_close 102 = .ok (.iload 4, 2) := by decide +kernel
theorem dz_M_close_104 : decode cz_M_close 104 = .ok (.ifCond .eq 15, 3) := by decide +kernel
theorem dz_M_close_107 : decode cz_M_close 107 = .ok (.iload 5, 2) := by decide +kernel
theorem dz_M_close_109 : decode cz_M_close 109 = .ok (.aload_n 0, 1) := by decide +kernel
theorem dz_M_close_110 : decode cz_M_close 110 = .ok (.getfield 57, 3) := by decide +kernel
theorem dz_M_close_113 : decode cz_M_close 113 = .ok (.if_icmp .ne 6, 3) := by decide +kernel
theorem dz_M_close_116 : decode cz_M_close 116 = .ok (.bipush (-14), 2) := by decide +kernel
theorem dz_M_close_118 : decode cz_M_close 118 = .ok (.ireturn, 1) := by decide +kernel
theorem dz_M_close_119 : decode cz_M_close 119 = .ok (.aload_n 0, 1) := by decide +kernel
theorem dz_M_close_120 : decode cz_M_close 120 = .ok (.getfield 13, 3) := by decide +kernel
theorem dz_M_close_123 : decode cz_M_close 123 = .ok (.iload_n 1, 1) := by decide +kernel
theorem dz_M_close_124 : decode cz_M_close 124 = .ok (.iconst 0, 1) := by decide +kernel
theorem dz_M_close_125 : decode cz_M_close 125 = .ok (.iastore, 1) := by decide +kernel
theorem dz_M_close_126 : decode cz_M_close 126 = .ok (.iload 4, 2) := by decide +kernel
theorem dz_M_close_128 : decode cz_M_close 128 = .ok (.ifCond .ne 5, 3) := by decide +kernel
theorem dz_M_close_131 : decode cz_M_close 131 = .ok (.iconst (-1), 1) := by decide +kernel
theorem dz_M_close_132 : decode cz_M_close 132 = .ok (.ireturn, 1) := by decide +kernel
theorem dz_M_close_133 : decode cz_M_close 133 = .ok (.aload_n 0, 1) := by decide +kernel
theorem dz_M_close_134 : decode cz_M_close 134 = .ok (.getfield 27, 3) := by decide +kernel
theorem dz_M_close_137 : decode cz_M_close 137 = .ok (.iload_n 1, 1) := by decide +kernel
theorem dz_M_close_138 : decode cz_M_close 138 = .ok (.aload_n 0, 1) := by decide +kernel
theorem dz_M_close_139 : decode cz_M_close 139 = .ok (.getfield 39, 3) := by decide +kernel
theorem dz_M_close_142 : decode cz_M_close 142 = .ok (.iload 5, 2) := by decide +kernel
theorem dz_M_close_144 : decode cz_M_close 144 = .ok (.iaload, 1) := by decide +kernel
theorem dz_M_close_145 : decode cz_M_close 145 = .ok (.iastore, 1) := by decide +kernel
theorem dz_M_close_146 : decode cz_M_close 146 = .ok (.aload_n 0, 1) := by decide +kernel
theorem dz_M_close_147 : decode cz_M_close 147 = .ok (.getfield 30, 3) := by decide +kernel
theorem dz_M_close_150 : decode cz_M_close 150 = .ok (.iload_n 1, 1) := by decide +kernel
theorem dz_M_close_151 : decode cz_M_close 151 = .ok (.lload_n 2, 1) := by decide +kernel
theorem dz_M_close_152 : decode cz_M_close 152 = .ok (.lastore, 1) := by decide +kernel
theorem dz_M_close_153 : decode cz_M_close 153 = .ok (.aload_n 0, 1) := by decide +kernel
theorem dz_M_close_154 : decode cz_M_close 154 = .ok (.getfield 33, 3) := by decide +kernel
theorem dz_M_close_157 : decode cz_M_close 157 = .ok (.iload_n 1, 1) := by decide +kernel
theorem dz_M_close_158 : decode cz_M_close 158 = .ok (.iconst 0, 1) := by decide +kernel
theorem dz_M_close_159 : decode cz_M_close 159 = .ok (.bastore, 1) := by decide +kernel
theorem dz_M_close_160 : decode cz_M_close 160 = .ok (.aload_n 0, 1) := by decide +kernel
theorem dz_M_close_161 : decode cz_M_close 161 = .ok (.aload_n 0, 1) := by decide +kernel
theorem dz_M_close_162 : decode cz_M_close 162 = .ok (.getfield 57, 3) := by decide +kernel
theorem dz_M_close_165 : decode cz_M_close 165 = .ok (.iload 5, 2) := by decide +kernel
theorem dz_M_close_167 : decode cz_M_close 167 = .ok (.isub, 1) := by decide +kernel
theorem dz_M_close_168 : decode cz_M_close 168 = .ok (.iconst 1, 1) := by decide +kernel
theorem dz_M_close_169 : decode cz_M_close 169 = .ok (.isub, 1) := by decide +kernel
theorem dz_M_close_170 : decode cz_M_close 170 = .ok (.putfield 57, 3) := by decide +kernel
theorem dz_M_close_173 : decode cz_M_close 173 = .ok (.iconst 0, 1) := by decide +kernel
theorem dz_M_close_174 : decode cz_M_close 174 = .ok (.istore 6, 2) := by decide +kernel
theorem dz_M_close_176 : decode cz_M_close 176 = .ok (.iload 6, 2) := by decide +kernel
theorem dz_M_close_178 : decode cz_M_close 178 = .ok (.aload_n 0, 1) := by decide +kernel
theorem dz_M_close_179 : decode cz_M_close 179 = .ok (.getfield 57, 3) := by decide +kernel
theorem dz_M_close_182 : decode cz_M_close 182 = .ok (.if_icmp .ge 28, 3) := by decide +kernel
theorem dz_M_close_185 : decode cz_M_close 185 = .ok (.aload_n 0, 1) := by decide +kernel
theorem dz_M_close_186 : decode cz_M_close 186 = .ok (.getfield 39, 3) := by decide +kernel
theorem dz_M_close_189 : decode cz_M_close 189 = .ok (.iload 6, 2) := by decide +kernel
theorem dz_M_close_191 : decode cz_M_close 191 = .ok (.aload_n 0, 1) := by decide +kernel
theorem dz_M_close_192 : decode cz_M_close 192 = .ok (.getfield 39, 3) := by decide +kernel
theorem dz_M_close_195 : decode cz_M_close 195 = .ok (.iload 6, 2) := by decide +kernel
theorem dz_M_close_197 : decode cz_M_close 197 = .ok (.iload 5, 2) := by decide +kernel
theorem dz_M_close_199 : decode cz_M_close 199 = .ok (.iadd, 1) := by decide +kernel
theorem dz_M_close_200 : decode cz_M_close 200 = .ok (.iconst 1, 1) := by decide +kernel
theorem dz_M_close_201 : decode cz_M_close 201 = .ok (.iadd, 1) := by decide +kernel
theorem dz_M_close_202 : decode cz_M_close 202 = .ok (.iaload, 1) := by decide +kernel
theorem dz_M_close_203 : decode cz_M_close 203 = .ok (.iastore, 1) := by decide +kernel
theorem dz_M_close_204 : decode cz_M_close 204 = .ok (.iinc 6 1, 3) := by decide +kernel
theorem dz_M_close_207 : decode cz_M_close 207 = .ok (.goto (-31), 3) := by decide +kernel
theorem dz_M_close_210 : decode cz_M_close 210 = .ok (.aload_n 0, 1) := by decide +kernel
theorem dz_M_close_211 : decode cz_M_close 211 = .ok (.getfield 27, 3) := by decide +kernel
theorem dz_M_close_214 : decode cz_M_close 214 = .ok (.iload_n 1, 1) := by decide +kernel
theorem dz_M_close_215 : decode cz_M_close 215 = .ok (.iaload, 1) := by decide +kernel
theorem dz_M_close_216 : decode cz_M_close 216 = .ok (.ireturn, 1) := by decide +kernel
theorem dz_M_open_0 : decode cz_M_open 0 = .ok (.aload_n 0, 1) := by decide +kernel
theorem dz_M_open_1 : decode cz_M_open 1 = .ok (.getfield 13, 3) := by decide +kernel
theorem dz_M_open_4 : decode cz_M_open 4 = .ok (.iload_n 1, 1) := by decide +kernel
theorem dz_M_open_5 : decode cz_M_open 5 = .ok (.iload_n 2, 1) := by decide +kernel
theorem dz_M_open_6 : decode cz_M_open 6 = .ok (.iastore, 1) := by decide +kernel
theorem dz_M_open_7 : decode cz_M_open 7 = .ok (.aload_n 0, 1) := by decide +kernel
theorem dz_M_open_8 : decode cz_M_open 8 = .ok (.getfield 16, 3) := by decide +kernel
theorem dz_M_open_11 : decode cz_M_open 11 = .ok (.iload_n 1, 1) := by decide +kernel
theorem dz_M_open_12 : decode cz_M_open 12 = .ok (.aload_n 0, 1) := by decide +kernel
theorem dz_M_open_13 : decode cz_M_open 13 = .ok (.getfield 60, 3) := by decide +kernel
theorem dz_M_open_16 : decode cz_M_open 16 = .ok (.lastore, 1) := by decide +kernel
theorem dz_M_open_17 : decode cz_M_open 17 = .ok (.aload_n 0, 1) := by decide +kernel
theorem dz_M_open_18 : decode cz_M_open 18 = .ok (.getfield 20, 3) := by decide +kernel
theorem dz_M_open_21 : decode cz_M_open 21 = .ok (.iload_n 1, 1) := by decide +kernel
theorem dz_M_open_22 : decode cz_M_open 22 = .ok (.iconst 0, 1) := by decide +kernel
theorem dz_M_open_23 : decode cz_M_open 23 = .ok (.bastore, 1) := by decide +kernel
theorem dz_M_open_24 : decode cz_M_open 24 = .ok (.return_, 1) := by decide +kernel
theorem dz_M_out_0 : decode cz_M_out 0 = .ok (.aload_n 0, 1) := by decide +kernel
theorem dz_M_out_1 : decode cz_M_out 1 = .ok (.getfield 24, 3) := by decide +kernel
theorem dz_M_out_4 : decode cz_M_out 4 = .ok (.iload_n 1, 1) := by decide +kernel
theorem dz_M_out_5 : decode cz_M_out 5 = .ok (.iaload, 1) := by decide +kernel
theorem dz_M_out_6 : decode cz_M_out 6 = .ok (.istore_n 2, 1) := by decide +kernel
theorem dz_M_out_7 : decode cz_M_out 7 = .ok (.aload_n 0, 1) := by decide +kernel
theorem dz_M_out_8 : decode cz_M_out 8 = .ok (.getfield 24, 3) := by decide +kernel
theorem dz_M_out_11 : decode cz_M_out 11 = .ok (.iload_n 1, 1) := by decide +kernel
theorem dz_M_out_12 : decode cz_M_out 12 = .ok (.iconst 0, 1) := by decide +kernel
theorem dz_M_out_13 : decode cz_M_out 13 = .ok (.iastore, 1) := by decide +kernel
theorem dz_M_out_14 : decode cz_M_out 14 = .ok (.aload_n 0, 1) := by decide +kernel
theorem dz_M_out_15 : decode cz_M_out 15 = .ok (.getfield 27, 3) := by decide +kernel
theorem dz_M_out_18 : decode cz_M_out 18 = .ok (.iload_n 1, 1) := by decide +kernel
theorem dz_M_out_19 : decode cz_M_out 19 = .ok (.iconst (-1), 1) := by decide +kernel
theorem dz_M_out_20 : decode cz_M_out 20 = .ok (.iastore, 1) := by decide +kernel
theorem dz_M_out_21 : decode cz_M_out 21 = .ok (.aload_n 0, 1) := by decide +kernel
theorem dz_M_out_22 : decode cz_M_out 22 = .ok (.getfield 33, 3) := by decide +kernel
theorem dz_M_out_25 : decode cz_M_out 25 = .ok (.iload_n 1, 1) := by decide +kernel
theorem dz_M_out_26 : decode cz_M_out 26 = .ok (.iconst 0, 1) := by decide +kernel
theorem dz_M_out_27 : decode cz_M_out 27 = .ok (.bastore, 1) := by decide +kernel
theorem dz_M_out_28 : decode cz_M_out 28 = .ok (.iload_n 2, 1) := by decide +kernel
theorem dz_M_out_29 : decode cz_M_out 29 = .ok (.ireturn, 1) := by decide +kernel
theorem dz_M_type_0 : decode cz_M_type 0 = .ok (.iload_n 1, 1) := by decide +kernel
theorem dz_M_type_1 : decode cz_M_type 1 = .ok (.i2l, 1) := by decide +kernel
theorem dz_M_type_2 : decode cz_M_type 2 = .ok (.lconst 0, 1) := by decide +kernel
theorem dz_M_type_3 : decode cz_M_type 3 = .ok (.ldc2_w 55, 3) := by decide +kernel
theorem dz_M_type_6 : decode cz_M_type 6 = .ok (.invokestatic 49, 3) := by decide +kernel
theorem dz_M_type_9 : decode cz_M_type 9 = .ok (.ifCond .eq 11, 3) := by decide +kernel
theorem dz_M_type_12 : decode cz_M_type 12 = .ok (.aload_n 0, 1) := by decide +kernel
theorem dz_M_type_13 : decode cz_M_type 13 = .ok (.lload_n 2, 1) := by decide +kernel
theorem dz_M_type_14 : decode cz_M_type 14 = .ok (.invokevirtual 82, 3) := by decide +kernel
theorem dz_M_type_17 : decode cz_M_type 17 = .ok (.ifCond .eq 6, 3) := by decide +kernel
theorem dz_M_type_20 : decode cz_M_type 20 = .ok (.bipush (-12), 2) := by decide +kernel
theorem dz_M_type_22 : decode cz_M_type 22 = .ok (.ireturn, 1) := by decide +kernel
theorem dz_M_type_23 : decode cz_M_type 23 = .ok (.aload_n 0, 1) := by decide +kernel
theorem dz_M_type_24 : decode cz_M_type 24 = .ok (.lload_n 2, 1) := by decide +kernel
theorem dz_M_type_25 : decode cz_M_type 25 = .ok (.invokevirtual 86, 3) := by decide +kernel
theorem dz_M_type_28 : decode cz_M_type 28 = .ok (.lload_n 2, 1) := by decide +kernel
theorem dz_M_type_29 : decode cz_M_type 29 = .ok (.aload_n 0, 1) := by decide +kernel
theorem dz_M_type_30 : decode cz_M_type 30 = .ok (.getfield 93, 3) := by decide +kernel
theorem dz_M_type_33 : decode cz_M_type 33 = .ok (.lcmp, 1) := by decide +kernel
theorem dz_M_type_34 : decode cz_M_type 34 = .ok (.ifCond .ge 5, 3) := by decide +kernel
theorem dz_M_type_37 : decode cz_M_type 37 = .ok (.iconst (-1), 1) := by decide +kernel
theorem dz_M_type_38 : decode cz_M_type 38 = .ok (.ireturn, 1) := by decide +kernel
theorem dz_M_type_39 : decode cz_M_type 39 = .ok (.iconst 1, 1) := by decide +kernel
theorem dz_M_type_40 : decode cz_M_type 40 = .ok (.istore 4, 2) := by decide +kernel
theorem dz_M_type_42 : decode cz_M_type 42 = .ok (.iload 4, 2) := by decide +kernel
theorem dz_M_type_44 : decode cz_M_type 44 = .ok (.aload_n 0, 1) := by decide +kernel
theorem dz_M_type_45 : decode cz_M_type 45 = .ok (.getfield 45, 3) := by decide +kernel
theorem dz_M_type_48 : decode cz_M_type 48 = .ok (.if_icmp .gt 52, 3) := by decide +kernel
theorem dz_M_type_51 : decode cz_M_type 51 = .ok (.aload_n 0, 1) := by decide +kernel
theorem dz_M_type_52 : decode cz_M_type 52 = .ok (.getfield 27, 3) := by decide +kernel
theorem dz_M_type_55 : decode cz_M_type 55 = .ok (.iload 4, 2) := by decide +kernel
theorem dz_M_type_57 : decode cz_M_type 57 = .ok (.iaload, 1) := by decide +kernel
theorem dz_M_type_58 : decode cz_M_type 58 = .ok (.iload_n 1, 1) := by decide +kernel
theorem dz_M_type_59 : decode cz_M_type 59 = .ok (.if_icmp .ne 35, 3) := by decide +kernel
theorem dz_M_type_62 : decode cz_M_type 62 = .ok (.aload_n 0, 1) := by decide +kernel
theorem dz_M_type_63 : decode cz_M_type 63 = .ok (.getfield 13, 3) := by decide +kernel
theorem dz_M_type_66 : decode cz_M_type 66 = .ok (.iload 4, 2) := by decide +kernel
theorem dz_M_type_68 : decode cz_M_type 68 = .ok (.iaload, 1) := by decide +kernel
theorem dz_M_type_69 : decode cz_M_type 69 = .ok (.ifCond .ne 25, 3) := by decide +kernel
theorem dz_M_type_72 : decode cz_M_type 72 = .ok (.aload_n 0, 1) := by decide +kernel
theorem dz_M_type_73 : decode cz_M_type 73 = .ok (.iload 4, 2) := by decide +kernel
theorem dz_M_type_75 : decode cz_M_type 75 = .ok (.invokevirtual 96, 3) := by decide +kernel
theorem dz_M_type_78 : decode cz_M_type 78 = .ok (.pop, 1) := by decide +kernel
theorem dz_M_type_79 : decode cz_M_type 79 = .ok (.aload_n 0, 1) := by decide +kernel
theorem dz_M_type_80 : decode cz_M_type 80 = .ok (.iload 4, 2) := by decide +kernel
theorem dz_M_type_82 : decode cz_M_type 82 = .ok (.iconst 1, 1) := by decide +kernel
theorem dz_M_type_83 : decode cz_M_type 83 = .ok (.invokevirtual 100, 3) := by decide +kernel
theorem dz_M_type_86 : decode cz_M_type 86 = .ok (.aload_n 0, 1) := by decide +kernel
theorem dz_M_type_87 : decode cz_M_type 87 = .ok (.iconst 0, 1) := by decide +kernel
theorem dz_M_type_88 : decode cz_M_type 88 = .ok (.putfield 104, 3) := by decide +kernel
theorem dz_M_type_91 : decode cz_M_type 91 = .ok (.iload 4, 2) := by decide +kernel
theorem dz_M_type_93 : decode cz_M_type 93 = .ok (.ireturn, 1) := by decide +kernel
theorem dz_M_type_94 : decode cz_M_type 94 = .ok (.iinc 4 1, 3) := by decide +kernel
theorem dz_M_type_97 : decode cz_M_type 97 = .ok (.goto (-55), 3) := by decide +kernel
theorem dz_M_type_100 : decode cz_M_type 100 = .ok (.aload_n 0, 1) := by decide +kernel
theorem dz_M_type_101 : decode cz_M_type 101 = .ok (.dup, 1) := by decide +kernel
theorem dz_M_type_102 : decode cz_M_type 102 = .ok (.getfield 104, 3) := by decide +kernel
theorem dz_M_type_105 : decode cz_M_type 105 = .ok (.iconst 1, 1) := by decide +kernel
theorem dz_M_type_106 : decode cz_M_type 106 = .ok (.iadd, 1) := by decide +kernel
theorem dz_M_type_107 : decode cz_M_type 107 = .ok (.putfield 104, 3) := by decide +kernel
theorem dz_M_type_110 : decode cz_M_type 110 = .ok (.aload_n 0, 1) := by decide +kernel
theorem dz_M_type_111 : decode cz_M_type 111 = .ok (.getfield 104, 3) := by decide +kernel
theorem dz_M_type_114 : decode cz_M_type 114 = .ok (.iconst 3, 1) := by decide +kernel
theorem dz_M_type_115 : decode cz_M_type 115 = .ok (.if_icmp .ne 17, 3) := by decide +kernel
theorem dz_M_type_118 : decode cz_M_type 118 = .ok (.aload_n 0, 1) := by decide +kernel
theorem dz_M_type_119 : decode cz_M_type 119 = .ok (.iconst 0, 1) := by decide +kernel
theorem dz_M_type_120 : decode cz_M_type 120 = .ok (.putfield 104, 3) := by decide +kernel
theorem dz_M_type_123 : decode cz_M_type 123 = .ok (.aload_n 0, 1) := by decide +kernel
theorem dz_M_type_124 : decode cz_M_type 124 = .ok (.lload_n 2, 1) := by decide +kernel
theorem dz_M_type_125 : decode cz_M_type 125 = .ok (.ldc2_w 107, 3) := by decide +kernel
theorem dz_M_type_128 : decode cz_M_type 128 = .ok (.ladd, 1) := by decide +kernel
theorem dz_M_type_129 : decode cz_M_type 129 = .ok (.putfield 93, 3) := by decide +kernel
theorem dz_M_type_132 : decode cz_M_type 132 = .ok (.iconst 0, 1) := by decide +kernel
theorem dz_M_type_133 : decode cz_M_type 133 = .ok (.ireturn, 1) := by decide +kernel
theorem dz_M_code_0 : decode cz_M_code 0 = .ok (.iload_n 1, 1) := by decide +kernel
theorem dz_M_code_1 : decode cz_M_code 1 = .ok (.i2l, 1) := by decide +kernel
theorem dz_M_code_2 : decode cz_M_code 2 = .ok (.lconst 1, 1) := by decide +kernel
theorem dz_M_code_3 : decode cz_M_code 3 = .ok (.ldc2_w 80, 3) := by decide +kernel
theorem dz_M_code_6 : decode cz_M_code 6 = .ok (.invokestatic 49, 3) := by decide +kernel
theorem dz_M_code_9 : decode cz_M_code 9 = .ok (.ifCond .ne 6, 3) := by decide +kernel
theorem dz_M_code_12 : decode cz_M_code 12 = .ok (.bipush (-12), 2) := by decide +kernel
theorem dz_M_code_14 : decode cz_M_code 14 = .ok (.ireturn, 1) := by decide +kernel
theorem dz_M_code_15 : decode cz_M_code 15 = .ok (.iconst 1, 1) := by decide +kernel
theorem dz_M_code_16 : decode cz_M_code 16 = .ok (.istore_n 2, 1) := by decide +kernel
theorem dz_M_code_17 : decode cz_M_code 17 = .ok (.iload_n 2, 1) := by decide +kernel
theorem dz_M_code_18 : decode cz_M_code 18 = .ok (.aload_n 0, 1) := by decide +kernel
theorem dz_M_code_19 : decode cz_M_code 19 = .ok (.getfield 45, 3) := by decide +kernel
theorem dz_M_code_22 : decode cz_M_code 22 = .ok (.if_icmp .gt 26, 3) := by decide +kernel
theorem dz_M_code_25 : decode cz_M_code 25 = .ok (.aload_n 0, 1) := by decide +kernel
theorem dz_M_code_26 : decode cz_M_code 26 = .ok (.getfield 24, 3) := by decide +kernel
theorem dz_M_code_29 : decode cz_M_code 29 = .ok (.iload_n 2, 1) := by decide +kernel
theorem dz_M_code_30 : decode cz_M_code 30 = .ok (.iaload, 1) := by decide +kernel
theorem dz_M_code_31 : decode cz_M_code 31 = .ok (.iload_n 1, 1) := by decide +kernel
theorem dz_M_code_32 : decode cz_M_code 32 = .ok (.if_icmp .ne 10, 3) := by decide +kernel
theorem dz_M_code_35 : decode cz_M_code 35 = .ok (.aload_n 0, 1) := by decide +kernel
theorem dz_M_code_36 : decode cz_M_code 36 = .ok (.getfield 27, 3) := by decide +kernel
theorem dz_M_code_39 : decode cz_M_code 39 = .ok (.iload_n 2, 1) := by decide +kernel
theorem dz_M_code_40 : decode cz_M_code 40 = .ok (.iaload, 1) := by decide +kernel
theorem dz_M_code_41 : decode cz_M_code 41 = .ok (.ireturn, 1) := by decide +kernel
theorem dz_M_code_42 : decode cz_M_code 42 = .ok (.iinc 2 1, 3) := by decide +kernel
theorem dz_M_code_45 : decode cz_M_code 45 = .ok (.goto (-28), 3) := by decide +kernel
theorem dz_M_code_48 : decode cz_M_code 48 = .ok (.iconst (-1), 1) := by decide +kernel
theorem dz_M_code_49 : decode cz_M_code 49 = .ok (.ireturn, 1) := by decide +kernel
theorem dz_M_door_0 : decode cz_M_door 0 = .ok (.aload_n 0, 1) := by decide +kernel
theorem dz_M_door_1 : decode cz_M_door 1 = .ok (.iload_n 1, 1) := by decide +kernel
theorem dz_M_door_2 : decode cz_M_door 2 = .ok (.invokevirtual 76, 3) := by decide +kernel
theorem dz_M_door_5 : decode cz_M_door 5 = .ok (.ifCond .ne 6, 3) := by decide +kernel
theorem dz_M_door_8 : decode cz_M_door 8 = .ok (.bipush (-11), 2) := by decide +kernel
theorem dz_M_door_10 : decode cz_M_door 10 = .ok (.ireturn, 1) := by decide +kernel
theorem dz_M_door_11 : decode cz_M_door 11 = .ok (.iload_n 2, 1) := by decide +kernel
theorem dz_M_door_12 : decode cz_M_door 12 = .ok (.i2l, 1) := by decide +kernel
theorem dz_M_door_13 : decode cz_M_door 13 = .ok (.lconst 0, 1) := by decide +kernel
theorem dz_M_door_14 : decode cz_M_door 14 = .ok (.ldc2_w 109, 3) := by decide +kernel
theorem dz_M_door_17 : decode cz_M_door 17 = .ok (.invokestatic 49, 3) := by decide +kernel
theorem dz_M_door_20 : decode cz_M_door 20 = .ok (.ifCond .eq 11, 3) := by decide +kernel
theorem dz_M_door_23 : decode cz_M_door 23 = .ok (.aload_n 0, 1) := by decide +kernel
theorem dz_M_door_24 : decode cz_M_door 24 = .ok (.lload_n 3, 1) := by decide +kernel
theorem dz_M_door_25 : decode cz_M_door 25 = .ok (.invokevirtual 82, 3) := by decide +kernel
theorem dz_M_door_28 : decode cz_M_door 28 = .ok (.ifCond .eq 6, 3) := by decide +kernel
theorem dz_M_door_31 : decode cz_M_door 31 = .ok (.bipush (-12), 2) := by decide +kernel
theorem dz_M_door_33 : decode cz_M_door 33 = .ok (.ireturn, 1) := by decide +kernel
theorem dz_M_door_34 : decode cz_M_door 34 = .ok (.aload_n 0, 1) := by decide +kernel
theorem dz_M_door_35 : decode cz_M_door 35 = .ok (.lload_n 3, 1) := by decide +kernel
theorem dz_M_door_36 : decode cz_M_door 36 = .ok (.invokevirtual 86, 3) := by decide +kernel
theorem dz_M_door_39 : decode cz_M_door 39 = .ok (.aload_n 0, 1) := by decide +kernel
theorem dz_M_door_40 : decode cz_M_door 40 = .ok (.getfield 13, 3) := by decide +kernel
theorem dz_M_door_43 : decode cz_M_door 43 = .ok (.iload_n 1, 1) := by decide +kernel
theorem dz_M_door_44 : decode cz_M_door 44 = .ok (.iaload, 1) := by decide +kernel
theorem dz_M_door_45 : decode cz_M_door 45 = .ok (.istore 5, 2) := by decide +kernel
theorem dz_M_door_47 : decode cz_M_door 47 = .ok (.iload_n 2, 1) := by decide +kernel
theorem dz_M_door_48 : decode cz_M_door 48 = .ok (.ifCond .ne 16, 3) := by decide +kernel
theorem dz_M_door_51 : decode cz_M_door 51 = .ok (.iload 5, 2) := by decide +kernel
theorem dz_M_door_53 : decode cz_M_door 53 = .ok (.ifCond .ne 7, 3) := by decide +kernel
theorem dz_M_door_56 : decode cz_M_door 56 = .ok (.iconst 1, 1) := by decide +kernel
theorem dz_M_door_57 : decode cz_M_door 57 = .ok (.goto 99, 3) := by decide +kernel
theorem dz_M_door_60 : decode cz_M_door 60 = .ok (.iconst 0, 1) := by decide +kernel
theorem dz_M_door_61 : decode cz_M_door 61 = .ok (.goto 95, 3) := by decide +kernel
theorem dz_M_door_64 : decode cz_M_door 64 = .ok (.iload_n 2, 1) := by decide +kernel
theorem dz_M_door_65 : decode cz_M_door 65 = .ok (.iconst 1, 1) := by decide +kernel
theorem dz_M_door_66 : decode cz_M_door 66 = .ok (.if_icmp .ne 22, 3) := by decide +kernel
theorem dz_M_door_69 : decode cz_M_door 69 = .ok (.iload 5, 2) := by decide +kernel
theorem dz_M_door_71 : decode cz_M_door 71 = .ok (.ifCond .eq 9, 3) := by decide +kernel
theorem dz_M_door_74 : decode cz_M_door 74 = .ok (.iload 5, 2) := by decide +kernel
theorem dz_M_door_76 : decode cz_M_door 76 = .ok (.iconst 1, 1) := by decide +kernel
theorem dz_M_door_77 : decode cz_M_door 77 = .ok (.if_icmp .ne 7, 3) := by decide +kernel
theorem dz_M_door_80 : decode cz_M_door 80 = .ok (.iconst 1, 1) := by decide +kernel
theorem dz_M_door_81 : decode cz_M_door 81 = .ok (.goto 75, 3) := by decide +kernel
theorem dz_M_door_84 : decode cz_M_door 84 = .ok (.iconst 0, 1) := by decide +kernel
theorem dz_M_door_85 : decode cz_M_door 85 = .ok (.goto 71, 3) := by decide +kernel
theorem dz_M_door_88 : decode cz_M_door 88 = .ok (.iload_n 2, 1) := by decide +kernel
theorem dz_M_door_89 : decode cz_M_door 89 = .ok (.iconst 2, 1) := by decide +kernel
theorem dz_M_door_90 : decode cz_M_door 90 = .ok (.if_icmp .ne 17, 3) := by decide +kernel
theorem dz_M_door_93 : decode cz_M_door 93 = .ok (.iload 5, 2) := by decide +kernel
theorem dz_M_door_95 : decode cz_M_door 95 = .ok (.iconst 2, 1) := by decide +kernel
theorem dz_M_door_96 : decode cz_M_door 96 = .ok (.if_icmp .ne 7, 3) := by decide +kernel
theorem dz_M_door_99 : decode cz_M_door 99 = .ok (.iconst 1, 1) := by decide +kernel
theorem dz_M_door_100 : decode cz_M_door 100 = .ok (.goto 56, 3) := by decide +kernel
theorem dz_M_door_103 : decode cz_M_door 103 = .ok (.iconst 0, 1) := by decide +kernel
theorem dz_M_door_104 : decode cz_M_door 104 = .ok (.goto 52, 3) := by decide +kernel
theorem dz_M_door_107 : decode cz_M_door 107 = .ok (.iload_n 2, 1) := by decide +kernel
theorem dz_M_door_108 : decode cz_M_door 108 = .ok (.iconst 3, 1) := by decide +kernel
theorem dz_M_door_109 : decode cz_M_door 109 = .ok (.if_icmp .ne 36, 3) := by decide +kernel
theorem dz_M_door_112 : decode cz_M_door 112 = .ok (.iload 5, 2) := by decide +kernel
theorem dz_M_door_114 : decode cz_M_door 114 = .ok (.ifCond .ne 27, 3) := by decide +kernel
theorem dz_M_door_117 : decode cz_M_door 117 = .ok (.aload_n 0, 1) := by decide +kernel
theorem dz_M_door_118 : decode cz_M_door 118 = .ok (.getfield 24, 3) := by decide +kernel
theorem dz_M_door_121 : decode cz_M_door 121 = .ok (.iload_n 1, 1) := by decide +kernel
theorem dz_M_door_122 : decode cz_M_door 122 = .ok (.iaload, 1) := by decide +kernel
theorem dz_M_door_123 : decode cz_M_door 123 = .ok (.ifCond .ne 18, 3) := by decide +kernel
theorem dz_M_door_126 : decode cz_M_door 126 = .ok (.aload_n 0, 1) := by decide +kernel
theorem dz_M_door_127 : decode cz_M_door 127 = .ok (.getfield 36, 3) := by decide +kernel
theorem dz_M_door_130 : decode cz_M_door 130 = .ok (.iload_n 1, 1) := by decide +kernel
theorem dz_M_door_131 : decode cz_M_door 131 = .ok (.laload, 1) := by decide +kernel
theorem dz_M_door_132 : decode cz_M_door 132 = .ok (.lconst 0, 1) := by decide +kernel
theorem dz_M_door_133 : decode cz_M_door 133 = .ok (.lcmp, 1) := by decide +kernel
theorem dz_M_door_134 : decode cz_M_door 134 = .ok (.ifCond .ne 7, 3) := by decide +kernel
theorem dz_M_door_137 : decode cz_M_door 137 = .ok (.iconst 1, 1) := by decide +kernel
theorem dz_M_door_138 : decode cz_M_door 138 = .ok (.goto 18, 3) := by decide +kernel
theorem dz_M_door_141 : decode cz_M_door 141 = .ok (.iconst 0, 1) := by decide +kernel
theorem dz_M_door_142 : decode cz_M_door 142 = .ok (.goto 14, 3) := by decide +kernel
theorem dz_M_door_145 : decode cz_M_door 145 = .ok (.iload 5, 2) := by decide +kernel
theorem dz_M_door_147 : decode cz_M_door 147 = .ok (.iconst 3, 1) := by decide +kernel
theorem dz_M_door_148 : decode cz_M_door 148 = .ok (.if_icmp .ne 7, 3) := by decide +kernel
theorem dz_M_door_151 : decode cz_M_door 151 = .ok (.iconst 1, 1) := by decide +kernel
theorem dz_M_door_152 : decode cz_M_door 152 = .ok (.goto 4, 3) := by decide +kernel
theorem dz_M_door_155 : decode cz_M_door 155 = .ok (.iconst 0, 1) := by decide +kernel
theorem dz_M_door_156 : decode cz_M_door 156 = .ok (.istore 6, 2) := by decide +kernel
theorem dz_M_door_158 : decode cz_M_door 158 = .ok (.iload 6, 2) := by decide +kernel
theorem dz_M_door_160 : decode cz_M_door 160 = .ok (.ifCond .ne 6, 3) := by decide +kernel
theorem dz_M_door_163 : decode cz_M_door 163 = .ok (.bipush (-13), 2) := by decide +kernel
theorem dz_M_door_165 : decode cz_M_door 165 = .ok (.ireturn, 1) := by decide +kernel
theorem dz_M_door_166 : decode cz_M_door 166 = .ok (.iload_n 2, 1) := by decide +kernel
theorem dz_M_door_167 : decode cz_M_door 167 = .ok (.iconst 2, 1) := by decide +kernel
theorem dz_M_door_168 : decode cz_M_door 168 = .ok (.if_icmp .ge 20, 3) := by decide +kernel
theorem dz_M_door_171 : decode cz_M_door 171 = .ok (.aload_n 0, 1) := by decide +kernel
theorem dz_M_door_172 : decode cz_M_door 172 = .ok (.iload_n 1, 1) := by decide +kernel
theorem dz_M_door_173 : decode cz_M_door 173 = .ok (.iload_n 2, 1) := by decide +kernel
theorem dz_M_door_174 : decode cz_M_door 174 = .ok (.ifCond .ne 7, 3) := by decide +kernel
theorem dz_M_door_177 : decode cz_M_door 177 = .ok (.iconst 1, 1) := by decide +kernel
theorem dz_M_door_178 : decode cz_M_door 178 = .ok (.goto 4, 3) := by decide +kernel
theorem dz_M_door_181 : decode cz_M_door 181 = .ok (.iconst 2, 1) := by decide +kernel
theorem dz_M_door_182 : decode cz_M_door 182 = .ok (.invokevirtual 100, 3) := by decide +kernel
theorem dz_M_door_185 : decode cz_M_door 185 = .ok (.goto 19, 3) := by decide +kernel
theorem dz_M_door_188 : decode cz_M_door 188 = .ok (.aload_n 0, 1) := by decide +kernel
theorem dz_M_door_189 : decode cz_M_door 189 = .ok (.getfield 13, 3) := by decide +kernel
theorem dz_M_door_192 : decode cz_M_door 192 = .ok (.iload_n 1, 1) := by decide +kernel
theorem dz_M_door_193 : decode cz_M_door 193 = .ok (.iload_n 2, 1) := by decide +kernel
theorem dz_M_door_194 : decode cz_M_door 194 = .ok (.iconst 3, 1) := by decide +kernel
theorem dz_M_door_195 : decode cz_M_door 195 = .ok (.if_icmp .ne 7, 3) := by decide +kernel
theorem dz_M_door_198 : decode cz_M_door 198 = .ok (.iconst 3, 1) := by decide +kernel
theorem dz_M_door_199 : decode cz_M_door 199 = .ok (.goto 4, 3) := by decide +kernel
theorem dz_M_door_202 : decode cz_M_door 202 = .ok (.iconst 0, 1) := by decide +kernel
theorem dz_M_door_203 : decode cz_M_door 203 = .ok (.iastore, 1) := by decide +kernel
theorem dz_M_door_204 : decode cz_M_door 204 = .ok (.aload_n 0, 1) := by decide +kernel
theorem dz_M_door_205 : decode cz_M_door 205 = .ok (.getfield 13, 3) := by decide +kernel
theorem dz_M_door_208 : decode cz_M_door 208 = .ok (.iload_n 1, 1) := by decide +kernel
theorem dz_M_door_209 : decode cz_M_door 209 = .ok (.iaload, 1) := by decide +kernel
theorem dz_M_door_210 : decode cz_M_door 210 = .ok (.ireturn, 1) := by decide +kernel
theorem dz_M_tick_0 : decode cz_M_tick 0 = .ok (.aload_n 0, 1) := by decide +kernel
theorem dz_M_tick_1 : decode cz_M_tick 1 = .ok (.lload_n 1, 1) := by decide +kernel
theorem dz_M_tick_2 : decode cz_M_tick 2 = .ok (.invokevirtual 82, 3) := by decide +kernel
theorem dz_M_tick_5 : decode cz_M_tick 5 = .ok (.ifCond .eq 6, 3) := by decide +kernel
theorem dz_M_tick_8 : decode cz_M_tick 8 = .ok (.bipush (-12), 2) := by decide +kernel
theorem dz_M_tick_10 : decode cz_M_tick 10 = .ok (.ireturn, 1) := by decide +kernel
theorem dz_M_tick_11 : decode cz_M_tick 11 = .ok (.aload_n 0, 1) := by decide +kernel
theorem dz_M_tick_12 : decode cz_M_tick 12 = .ok (.lload_n 1, 1) := by decide +kernel
theorem dz_M_tick_13 : decode cz_M_tick 13 = .ok (.invokevirtual 86, 3) := by decide +kernel
theorem dz_M_tick_16 : decode cz_M_tick 16 = .ok (.aload_n 0, 1) := by decide +kernel
theorem dz_M_tick_17 : decode cz_M_tick 17 = .ok (.getfield 71, 3) := by decide +kernel
theorem dz_M_tick_20 : decode cz_M_tick 20 = .ok (.istore_n 3, 1) := by decide +kernel
theorem dz_M_tick_21 : decode cz_M_tick 21 = .ok (.aload_n 0, 1) := by decide +kernel
theorem dz_M_tick_22 : decode cz_M_tick 22 = .ok (.iconst 0, 1) := by decide +kernel
theorem dz_M_tick_23 : decode cz_M_tick 23 = .ok (.putfield 71, 3) := by decide +kernel
theorem dz_M_tick_26 : decode cz_M_tick 26 = .ok (.iload_n 3, 1) := by decide +kernel
theorem dz_M_tick_27 : decode cz_M_tick 27 = .ok (.ireturn, 1) := by decide +kernel
theorem dz_M_take_0 : decode cz_M_take 0 = .ok (.aload_n 0, 1) := by decide +kernel
theorem dz_M_take_1 : decode cz_M_take 1 = .ok (.iload_n 1, 1) := by decide +kernel
theorem dz_M_take_2 : decode cz_M_take 2 = .ok (.invokevirtual 76, 3) := by decide +kernel
theorem dz_M_take_5 : decode cz_M_take 5 = .ok (.ifCond .ne 6, 3) := by decide +kernel
theorem dz_M_take_8 : decode cz_M_take 8 = .ok (.bipush (-11), 2) := by decide +kernel
theorem dz_M_take_10 : decode cz_M_take 10 = .ok (.ireturn, 1) := by decide +kernel
theorem dz_M_take_11 : decode cz_M_take 11 = .ok (.iload_n 2, 1) := by decide +kernel
theorem dz_M_take_12 : decode cz_M_take 12 = .ok (.i2l, 1) := by decide +kernel
theorem dz_M_take_13 : decode cz_M_take 13 = .ok (.lconst 0, 1) := by decide +kernel
theorem dz_M_take_14 : decode cz_M_take 14 = .ok (.ldc2_w 111, 3) := by decide +kernel
theorem dz_M_take_17 : decode cz_M_take 17 = .ok (.invokestatic 49, 3) := by decide +kernel
theorem dz_M_take_20 : decode cz_M_take 20 = .ok (.ifCond .ne 6, 3) := by decide +kernel
theorem dz_M_take_23 : decode cz_M_take 23 = .ok (.bipush (-12), 2) := by decide +kernel
theorem dz_M_take_25 : decode cz_M_take 25 = .ok (.ireturn, 1) := by decide +kernel
theorem dz_M_take_26 : decode cz_M_take 26 = .ok (.aload_n 0, 1) := by decide +kernel
theorem dz_M_take_27 : decode cz_M_take 27 = .ok (.getfield 13, 3) := by decide +kernel
theorem dz_M_take_30 : decode cz_M_take 30 = .ok (.iload_n 1, 1) := by decide +kernel
theorem dz_M_take_31 : decode cz_M_take 31 = .ok (.iaload, 1) := by decide +kernel
theorem dz_M_take_32 : decode cz_M_take 32 = .ok (.iconst 1, 1) := by decide +kernel
theorem dz_M_take_33 : decode cz_M_take 33 = .ok (.if_icmp .eq 13, 3) := by decide +kernel
theorem dz_M_take_36 : decode cz_M_take 36 = .ok (.aload_n 0, 1) := by decide +kernel
theorem dz_M_take_37 : decode cz_M_take 37 = .ok (.getfield 13, 3) := by decide +kernel
theorem dz_M_take_40 : decode cz_M_take 40 = .ok (.iload_n 1, 1) := by decide +kernel
theorem dz_M_take_41 : decode cz_M_take 41 = .ok (.iaload, 1) := by decide +kernel
theorem dz_M_take_42 : decode cz_M_take 42 = .ok (.iconst 2, 1) := by decide +kernel
theorem dz_M_take_43 : decode cz_M_take 43 = .ok (.if_icmp .ne 11, 3) := by decide +kernel
theorem dz_M_take_46 : decode cz_M_take 46 = .ok (.aload_n 0, 1) := by decide +kernel
theorem dz_M_take_47 : decode cz_M_take 47 = .ok (.iload_n 1, 1) := by decide +kernel
theorem dz_M_take_48 : decode cz_M_take 48 = .ok (.invokevirtual 96, 3) := by decide +kernel
theorem dz_M_take_51 : decode cz_M_take 51 = .ok (.goto 4, 3) := by decide +kernel
theorem dz_M_take_54 : decode cz_M_take 54 = .ok (.iconst 0, 1) := by decide +kernel
theorem dz_M_take_55 : decode cz_M_take 55 = .ok (.ireturn, 1) := by decide +kernel
theorem dz_M_item_0 : decode cz_M_item 0 = .ok (.aload_n 0, 1) := by decide +kernel
theorem dz_M_item_1 : decode cz_M_item 1 = .ok (.iload_n 1, 1) := by decide +kernel
theorem dz_M_item_2 : decode cz_M_item 2 = .ok (.invokevirtual 76, 3) := by decide +kernel
theorem dz_M_item_5 : decode cz_M_item 5 = .ok (.ifCond .ne 8, 3) := by decide +kernel
theorem dz_M_item_8 : decode cz_M_item 8 = .ok (.bipush (-11), 2) := by decide +kernel
theorem dz_M_item_10 : decode cz_M_item 10 = .ok (.goto 28, 3) := by decide +kernel
theorem dz_M_item_13 : decode cz_M_item 13 = .ok (.aload_n 0, 1) := by decide +kernel
theorem dz_M_item_14 : decode cz_M_item 14 = .ok (.getfield 33, 3) := by decide +kernel
theorem dz_M_item_17 : decode cz_M_item 17 = .ok (.iload_n 1, 1) := by decide +kernel
theorem dz_M_item_18 : decode cz_M_item 18 = .ok (.baload, 1) := by decide +kernel
theorem dz_M_item_19 : decode cz_M_item 19 = .ok (.ifCond .eq 13, 3) := by decide +kernel
theorem dz_M_item_22 : decode cz_M_item 22 = .ok (.aload_n 0, 1) := by decide +kernel
theorem dz_M_item_23 : decode cz_M_item 23 = .ok (.getfield 24, 3) := by decide +kernel
theorem dz_M_item_26 : decode cz_M_item 26 = .ok (.iload_n 1, 1) := by decide +kernel
theorem dz_M_item_27 : decode cz_M_item 27 = .ok (.iaload, 1) := by decide +kernel
theorem dz_M_item_28 : decode cz_M_item 28 = .ok (.ineg, 1) := by decide +kernel
theorem dz_M_item_29 : decode cz_M_item 29 = .ok (.goto 9, 3) := by decide +kernel
theorem dz_M_item_32 : decode cz_M_item 32 = .ok (.aload_n 0, 1) := by decide +kernel
theorem dz_M_item_33 : decode cz_M_item 33 = .ok (.getfield 24, 3) := by decide +kernel
theorem dz_M_item_36 : decode cz_M_item 36 = .ok (.iload_n 1, 1) := by decide +kernel
theorem dz_M_item_37 : decode cz_M_item 37 = .ok (.iaload, 1) := by decide +kernel
theorem dz_M_item_38 : decode cz_M_item 38 = .ok (.ireturn, 1) := by decide +kernel
theorem dz_M_freed_0 : decode cz_M_freed 0 = .ok (.iload_n 1, 1) := by decide +kernel
theorem dz_M_freed_1 : decode cz_M_freed 1 = .ok (.i2l, 1) := by decide +kernel
theorem dz_M_freed_2 : decode cz_M_freed 2 = .ok (.lconst 0, 1) := by decide +kernel
theorem dz_M_freed_3 : decode cz_M_freed 3 = .ok (.aload_n 0, 1) := by decide +kernel
theorem dz_M_freed_4 : decode cz_M_freed 4 = .ok (.getfield 66, 3) := by decide +kernel
theorem dz_M_freed_7 : decode cz_M_freed 7 = .ok (.iconst 1, 1) := by decide +kernel
theorem dz_M_freed_8 : decode cz_M_freed 8 = .ok (.isub, 1) := by decide +kernel
theorem dz_M_freed_9 : decode cz_M_freed 9 = .ok (.i2l, 1) := by decide +kernel
theorem dz_M_freed_10 : decode cz_M_freed 10 = .ok (.invokestatic 49, 3) := by decide +kernel
theorem dz_M_freed_13 : decode cz_M_freed 13 = .ok (.ifCond .eq 12, 3) := by decide +kernel
theorem dz_M_freed_16 : decode cz_M_freed 16 = .ok (.aload_n 0, 1) := by decide +kernel
theorem dz_M_freed_17 : decode cz_M_freed 17 = .ok (.getfield 42, 3) := by decide +kernel
theorem dz_M_freed_20 : decode cz_M_freed 20 = .ok (.iload_n 1, 1) := by decide +kernel
theorem dz_M_freed_21 : decode cz_M_freed 21 = .ok (.iaload, 1) := by decide +kernel
theorem dz_M_freed_22 : decode cz_M_freed 22 = .ok (.goto 4, 3) := by decide +kernel
theorem dz_M_freed_25 : decode cz_M_freed 25 = .ok (.iconst 0, 1) := by decide +kernel
theorem dz_M_freed_26 : decode cz_M_freed 26 = .ok (.ireturn, 1) := by decide +kernel
end
section
/-! THE FRAME: what every contract of this claim shares. zw_: worlds and calls. -/
def zw_isN (w : Cond) : Bool := match w with
  | .fieldLinkNest .. => true
  | .methodLinkNest .. => true
  | .arrayOver (.object _) => true
  | _ => false
theorem zw_nWarm {w : Cond} (h : zw_isN w = true) {s U : State} (hW : s.WarmedH U.vm) (hZ : va_Nw w s) : va_Nw w U := by
  unfold zw_isN at h
  split at h
  · exact va_Nw.warmF hW hZ
  · exact va_Nw.warmM hW hZ
  · exact va_AO.moved hW.alike hZ
  · cases h
theorem zw_nSame {w : Cond} (h : zw_isN w = true) {u U : State} (e : u.vm = U.vm) (hZ : va_Nw w u) : va_Nw w U := by
  unfold zw_isN at h
  split at h
  · exact va_Nw.same rfl e hZ
  · exact va_Nw.same rfl e hZ
  · exact va_AO.moved (e ▸ Vm.Alike.refl u.vm) hZ
  · cases h
def zw_N (ns : List Cond) (U : State) : Prop := ∀ w ∈ ns, va_Nw w U
theorem zw_N.warm {ns : List Cond} (hn : ∀ w ∈ ns, zw_isN w = true) {s U : State} (hW : s.WarmedH U.vm) (h : zw_N ns s) : zw_N ns U := fun w hw => zw_nWarm (hn w hw) hW (h w hw)
theorem zw_N.same {ns : List Cond} (hn : ∀ w ∈ ns, zw_isN w = true) {u U : State} (e : u.vm = U.vm) (h : zw_N ns u) : zw_N ns U := fun w hw => zw_nSame (hn w hw) e (h w hw)
/-- a reader's start: the cells, the classes, the nest's words -/
abbrev zw_R (ns : List Cond) (D : va_G) (cl : List vw_C) (tys : List (ClassId × FieldType)) (av : List Value) (ws : va_W) : Array Value → State → Prop := va_Pc av (fun U => va_P D cl ws U.heap ∧ va_K D cl tys U ∧ zw_N ns U)
/-- a writer's start -/
abbrev zw_U (ns : List Cond) (D : va_G) (cl : List vw_C) (tys : List (ClassId × FieldType)) (av : List Value) (ws : va_W) (sz : Nat) : Array Value → State → Prop := va_Pc av (fun U => U.heap.size = sz ∧ va_P D cl ws U.heap ∧ va_K D cl tys U ∧ va_D (fun _ => True) ws ∧ zw_N ns U)
theorem zw_blindR {ns : List Cond} (hn : ∀ w ∈ ns, zw_isN w = true) {D : va_G} {cl : List vw_C} {tys : List (ClassId × FieldType)} {av : List Value} {ws : va_W} : FrameBlind (zw_R ns D cl tys av ws) := by
  intro a U g mk q
  obtain ⟨q0, qP, qK, qN⟩ := q
  exact ⟨q0, qP, va_K.moved (u := U) (U := U.calling g mk a) (Vm.Alike.refl U.vm) qK, qN.same hn (u := U) (U := U.calling g mk a) rfl⟩
theorem zw_blindU {ns : List Cond} (hn : ∀ w ∈ ns, zw_isN w = true) {D : va_G} {cl : List vw_C} {tys : List (ClassId × FieldType)} {av : List Value} {ws : va_W} {sz : Nat} : FrameBlind (zw_U ns D cl tys av ws sz) := by
  intro a U g mk q
  obtain ⟨q0, q1, qP, qK, qD, qN⟩ := q
  exact ⟨q0, q1, qP, va_K.moved (u := U) (U := U.calling g mk a) (Vm.Alike.refl U.vm) qK, qD, qN.same hn (u := U) (U := U.calling g mk a) rfl⟩
theorem zw_preR {ns : List Cond} (hn : ∀ w ∈ ns, zw_isN w = true) {D : va_G} {cl : List vw_C} {tys : List (ClassId × FieldType)} {s : State} {H : Heap} {av : List Value} {ws : va_W} (hP : va_P D cl ws H) (hK : va_K D cl tys s) (hN : zw_N ns s) : PreS s H (zw_R ns D cl tys av ws) av :=
  ⟨zw_blindR hn, fun U hU hW => ⟨rfl, by rw [hU]; exact hP, va_K.moved hW.alike hK, hN.warm hn hW⟩⟩
theorem zw_preU {ns : List Cond} (hn : ∀ w ∈ ns, zw_isN w = true) {D : va_G} {cl : List vw_C} {tys : List (ClassId × FieldType)} {s : State} {H : Heap} {av : List Value} {ws : va_W} {A : Nat → Prop} (hP : va_P D cl ws H) (hD : va_D A ws) (hK : va_K D cl tys s) (hN : zw_N ns s) : PreS s H (zw_U ns D cl tys av ws H.size) av :=
  ⟨zw_blindU hn, fun U hU hW => ⟨rfl, by rw [hU], by rw [hU]; exact hP, va_K.moved hW.alike hK, hD.weaken (fun _ _ _ _ => trivial), hN.warm hn hW⟩⟩
theorem zw_preRV {ns : List Cond} (hn : ∀ w ∈ ns, zw_isN w = true) {D : va_G} {cl : List vw_C} {tys : List (ClassId × FieldType)} {s : State} {H : Heap} {b k ci : Nat} {q : vw_C} {fs : List Value} {As : List Value} {ws : va_W} (hP : va_P D cl ws H) (hK : va_K D cl tys s) (hN : zw_N ns s) (hc : cl[ci]? = some q) (he : ws[k]? = some (b, .inr (ci, fs))) : PreV s H q.1 b (zw_R ns D cl tys (.ref b :: As) ws) As :=
  ⟨zw_blindR hn, va_recv hK hP hc he, (zw_preR hn hP hK hN).2⟩
theorem zw_preUV {ns : List Cond} (hn : ∀ w ∈ ns, zw_isN w = true) {D : va_G} {cl : List vw_C} {tys : List (ClassId × FieldType)} {s : State} {H : Heap} {b k ci : Nat} {q : vw_C} {fs : List Value} {As : List Value} {ws : va_W} {A : Nat → Prop} (hP : va_P D cl ws H) (hD : va_D A ws) (hK : va_K D cl tys s) (hN : zw_N ns s) (hc : cl[ci]? = some q) (he : ws[k]? = some (b, .inr (ci, fs))) : PreV s H q.1 b (zw_U ns D cl tys (.ref b :: As) ws H.size) As :=
  ⟨zw_blindU hn, va_recv hK hP hc he, (zw_preU hn hP hD hK hN).2⟩
theorem zw_free {A : Nat → Prop} {H0 H : Heap} {locs : List Loc} {wc : va_W} (hS : va_S A H0 H locs) (hA : ∀ q, H0.size ≤ q → A q) (hDc : va_D A wc) : ∀ q, va_A wc H.size q → A q := fun q h => h.elim (fun ⟨k, _, hk⟩ => hDc.2 k _ hk) (fun h => hA q (Nat.le_trans hS.1 h))
theorem zw_nil1 {α : Type} {x : α} {i : Nat} {q : α} (h : [x][i + 1]? = some q) : False := by simp at h
theorem zw_P1 {D : va_G} {cl : List vw_C} {ws : va_W} {H : Heap} {k : Nat} {q : Nat × va_E} (hP : va_P D cl ws H) (he : ws[k]? = some q) : va_P D cl [q] H := by
  intro j x hx
  match j, hx with
  | 0, hx => exact (Option.some.inj (show some q = some x from hx)) ▸ hP k q he
  | j + 1, hx => exact (zw_nil1 hx).elim
theorem zw_D1 {A : Nat → Prop} {ws : va_W} {k : Nat} {q : Nat × va_E} (hD : va_D A ws) (he : ws[k]? = some q) : va_D A [q] := by
  refine ⟨fun i j x y hi hj _ => ?_, fun j x hx => ?_⟩
  · match i, j, hi, hj with
    | 0, 0, _, _ => rfl
    | i + 1, _, hi, _ => exact (zw_nil1 hi).elim
    | 0, j + 1, _, hj => exact (zw_nil1 hj).elim
  · match j, hx with
    | 0, hx => exact (Option.some.inj (show some q = some x from hx)) ▸ hD.2 k q he
    | j + 1, hx => exact (zw_nil1 hx).elim
/-- behind a call that had one cell -/
theorem zw_join1 {D : va_G} {cl : List vw_C} {A0 : Nat → Prop} {ws : va_W} {H H1 : Heap} {k a : Nat} {e0 e1 : va_E} (hP : va_P D cl ws H) (hD : va_D A0 ws) (he : ws[k]? = some (a, e0)) (hk : ∀ q : Nat, q < H.size → ¬ va_A [(a, e0)] H.size q → H1[q]? = H[q]?) (hP1 : va_P D cl [(a, e1)] H1) : va_P D cl (ws.set k (a, e1)) H1 ∧ va_D A0 (ws.set k (a, e1)) := by
  refine ⟨?_, hD.set he⟩
  have hl := (List.getElem?_eq_some_iff.mp he).1
  intro j q hj
  by_cases hjk : j = k
  · subst hjk
    rw [List.getElem?_set_self hl] at hj
    exact (Option.some.inj hj) ▸ hP1 0 (a, e1) rfl
  · rw [List.getElem?_set_ne (Ne.symm hjk)] at hj
    have hlt := (hP j q hj).lt
    refine (hP j q hj).kept (hk q.1 hlt ?_)
    intro h
    rcases h with ⟨i, e, h⟩ | h
    · match i, h with
      | 0, h =>
        have h1 : a = q.1 := congrArg Prod.fst (Option.some.inj (show some (a, e0) = some (q.1, e) from h))
        exact hjk (hD.1 j k q (a, e0) hj he h1.symm)
      | i + 1, h => exact zw_nil1 h
    · omega
theorem zw_pair {α : Type} {x y : α} {i : Nat} {q : α} (h : [x, y][i]? = some q) : (i = 0 ∧ x = q) ∨ (i = 1 ∧ y = q) := by
  match i, h with
  | 0, h => exact Or.inl ⟨rfl, Option.some.inj h⟩
  | 1, h => exact Or.inr ⟨rfl, Option.some.inj h⟩
  | i + 2, h => simp at h
/-- behind a call that had two cells -/
theorem zw_join2 {D : va_G} {cl : List vw_C} {A0 : Nat → Prop} {ws : va_W} {H H1 : Heap} {k j a b : Nat} {e0 e1 f0 f1 : va_E} (hP : va_P D cl ws H) (hD : va_D A0 ws) (hkj : k ≠ j) (he : ws[k]? = some (a, e0)) (hf : ws[j]? = some (b, f0)) (hk : ∀ q : Nat, q < H.size → ¬ va_A [(a, e0), (b, f0)] H.size q → H1[q]? = H[q]?) (hP1 : va_P D cl [(a, e1), (b, f1)] H1) : va_P D cl ((ws.set k (a, e1)).set j (b, f1)) H1 ∧ va_D A0 ((ws.set k (a, e1)).set j (b, f1)) := by
  have hl := (List.getElem?_eq_some_iff.mp he).1
  have hl2 := (List.getElem?_eq_some_iff.mp hf).1
  have hf' : (ws.set k (a, e1))[j]? = some (b, f0) := by rw [List.getElem?_set_ne hkj]; exact hf
  refine ⟨?_, (hD.set he).set hf'⟩
  intro i q hi
  by_cases hij : i = j
  · subst hij
    rw [List.getElem?_set_self (by rw [List.length_set]; exact hl2)] at hi
    exact (Option.some.inj hi) ▸ hP1 1 (b, f1) rfl
  · rw [List.getElem?_set_ne (Ne.symm hij)] at hi
    by_cases hik : i = k
    · subst hik
      rw [List.getElem?_set_self hl] at hi
      exact (Option.some.inj hi) ▸ hP1 0 (a, e1) rfl
    · rw [List.getElem?_set_ne (Ne.symm hik)] at hi
      have hlt := (hP i q hi).lt
      refine (hP i q hi).kept (hk q.1 hlt ?_)
      intro h
      rcases h with ⟨n, e, h⟩ | h
      · rcases zw_pair h with ⟨-, h⟩ | ⟨-, h⟩
        · exact hik (hD.1 i k q (a, e0) hi he (congrArg Prod.fst h).symm)
        · exact hij (hD.1 i j q (b, f0) hi hf (congrArg Prod.fst h).symm)
      · omega
/-- behind a call that had the left part, or the right part, of a world -/
theorem zw_joinL {D : va_G} {cl : List vw_C} {A0 : Nat → Prop} {wx wm w1 : va_W} {H H1 : Heap} (hP : va_P D cl (wx ++ wm) H) (hD : va_D A0 (wx ++ wm)) (hk : ∀ q : Nat, q < H.size → ¬ va_A wx H.size q → H1[q]? = H[q]?) (hF : ∀ q, va_A wx H.size q → A0 q) (hP1 : va_P D cl w1 H1) (hD1 : va_D (va_A wx H.size) w1) : va_P D cl (w1 ++ wm) H1 ∧ va_D A0 (w1 ++ wm) := by
  have hm : ∀ (k : Nat) (q : Nat × va_E), wm[k]? = some q → (wx ++ wm)[wx.length + k]? = some q := fun k q h => by
    rw [List.getElem?_append_right (by omega), Nat.add_sub_cancel_left]; exact h
  have apart : ∀ (k : Nat) (q : Nat × va_E), wm[k]? = some q → q.1 < H.size ∧ ¬ va_A wx H.size q.1 := by
    intro k q hq
    have hl := (hP _ q (hm k q hq)).lt
    refine ⟨hl, fun h => ?_⟩
    rcases h with ⟨i, e, h⟩ | h
    · have hi := (List.getElem?_eq_some_iff.mp h).1
      have h2 : (wx ++ wm)[i]? = some (q.1, e) := by rw [List.getElem?_append_left hi]; exact h
      have := hD.1 _ _ _ _ (hm k q hq) h2 rfl
      omega
    · omega
  refine ⟨hP1.app (fun k q hq => ?_), va_D.app (hD1.weaken (fun k q _ h => hF q.1 h)) ⟨fun i j x y hi hj hxy => ?_, fun k q hq => hD.2 _ q (hm k q hq)⟩ (fun i j x y hx hy hxy => ?_)⟩
  · obtain ⟨g1, g2⟩ := apart k q hq
    exact (hP _ q (hm k q hq)).kept (hk q.1 g1 g2)
  · have := hD.1 _ _ _ _ (hm i x hi) (hm j y hj) hxy
    omega
  · exact (apart j y hy).2 (hxy ▸ hD1.2 i x hx)
theorem zw_left {D : va_G} {cl : List vw_C} {wx wm : va_W} {H : Heap} (hP : va_P D cl (wx ++ wm) H) : va_P D cl wx H := fun k q h => hP k q (by rw [List.getElem?_append_left (List.getElem?_eq_some_iff.mp h).1]; exact h)
theorem zw_right {D : va_G} {cl : List vw_C} {wx wm : va_W} {H : Heap} (hP : va_P D cl (wx ++ wm) H) : va_P D cl wm H := fun k q h => hP (wx.length + k) q (by rw [List.getElem?_append_right (by omega), Nat.add_sub_cancel_left]; exact h)
theorem zw_leftD {A : Nat → Prop} {wx wm : va_W} (hD : va_D A (wx ++ wm)) : va_D A wx :=
  ⟨fun i j x y hi hj e => hD.1 i j x y (by rw [List.getElem?_append_left (List.getElem?_eq_some_iff.mp hi).1]; exact hi) (by rw [List.getElem?_append_left (List.getElem?_eq_some_iff.mp hj).1]; exact hj) e, fun k q h => hD.2 k q (by rw [List.getElem?_append_left (List.getElem?_eq_some_iff.mp h).1]; exact h)⟩
theorem zw_swap {D : va_G} {cl : List vw_C} {A : Nat → Prop} {wx wm : va_W} {H : Heap} (h : va_P D cl (wx ++ wm) H ∧ va_D A (wx ++ wm)) : va_P D cl (wm ++ wx) H ∧ va_D A (wm ++ wx) := by
  have h1 : va_P D cl (([] ++ wx) ++ wm) H := h.1
  have h2 : va_D A (([] ++ wx) ++ wm) := h.2
  exact ⟨h1.swap, h2.swap⟩
/-- rooms by depth -/
abbrev zw_room (d c n : Nat) : Room := { frames := d, cells := c, slots := n, locals := 40 * d }
theorem zw_Tg (w : Cond) (h : w ∈ zw_T) : w ∈ zw_T ∧ ((w.onTables && w.keeps) = true ∨ ∃ ty, w = .arrayClass ty) := ⟨h, good_of_word (List.all_eq_true.mp zw_Tgood w h)⟩
theorem zw_g1 {c : Cond} (h : c ∈ zw_T) : GoodIn zw_T (c :: zw_T) := fun w hw => zw_Tg w ((List.mem_cons.mp hw).elim (fun e => e ▸ h) id)
theorem zw_gV {own C : String} {idx : Nat} {y : MethodName} {c : Cond} (h1 : Cond.methodLink own idx y ∈ zw_T) (h2 : Cond.instanceMethod y ∈ zw_T) (h3 : Cond.selects C y y ∈ zw_T) (h4 : Cond.initialized C ∈ zw_T) (h5 : c ∈ zw_T) : GoodIn zw_T (wsV own idx C y (c :: zw_T)) := by
  intro w hw
  unfold wsV at hw
  rcases List.mem_append.mp hw with h | h
  · rcases List.mem_cons.mp h with e | h
    · exact e ▸ zw_Tg _ h1
    · rcases List.mem_cons.mp h with e | h
      · exact e ▸ zw_Tg _ h2
      · rcases List.mem_cons.mp h with e | h
        · exact e ▸ zw_Tg _ h3
        · rcases List.mem_cons.mp h with e | h
          · exact e ▸ zw_Tg _ h4
          · cases h
  · exact zw_g1 h5 w h
theorem zw_gS {own : String} {idx : Nat} {y : MethodName} {c : Cond} (h1 : Cond.methodLink own idx y ∈ zw_T) (h2 : Cond.static y ∈ zw_T) (h3 : Cond.initialized own ∈ zw_T) (h5 : c ∈ zw_T) : GoodIn zw_T (wsS own idx y (c :: zw_T)) := by
  intro w hw
  unfold wsS at hw
  rcases List.mem_append.mp hw with h | h
  · rcases List.mem_cons.mp h with e | h
    · exact e ▸ zw_Tg _ h1
    · rcases List.mem_cons.mp h with e | h
      · exact e ▸ zw_Tg _ h2
      · rcases List.mem_cons.mp h with e | h
        · exact e ▸ zw_Tg _ h3
        · cases h
  · exact zw_g1 h5 w h
theorem zw_ns_ok : ∀ w ∈ zw_ns, zw_isN w = true := by decide +kernel
end
section
/-! THE STATE of the class in mathematical words. zb_: a box; zl_: the lockers; zt_: the tape's part of them. -/
abbrev zb_T : Type := Int32 × Int32 × Int64 × Int32 × Int32 × Int32 × Int64 × Int32 × Int64
def zb_Sz (b : zb_T) : Int32 := b.1
def zb_Dr (b : zb_T) : Int32 := b.2.1
def zb_Os (b : zb_T) : Int64 := b.2.2.1
def zb_To (b : zb_T) : Int32 := b.2.2.2.1
def zb_It (b : zb_T) : Int32 := b.2.2.2.2.1
def zb_Co (b : zb_T) : Int32 := b.2.2.2.2.2.1
def zb_Ls (b : zb_T) : Int64 := b.2.2.2.2.2.2.1
def zb_La (b : zb_T) : Int32 := b.2.2.2.2.2.2.2.1
def zb_Ke (b : zb_T) : Int64 := b.2.2.2.2.2.2.2.2
def zb_sSz (b : zb_T) (v : Int32) : zb_T := (v, zb_Dr b, zb_Os b, zb_To b, zb_It b, zb_Co b, zb_Ls b, zb_La b, zb_Ke b)
def zb_sDr (b : zb_T) (v : Int32) : zb_T := (zb_Sz b, v, zb_Os b, zb_To b, zb_It b, zb_Co b, zb_Ls b, zb_La b, zb_Ke b)
def zb_sOs (b : zb_T) (v : Int64) : zb_T := (zb_Sz b, zb_Dr b, v, zb_To b, zb_It b, zb_Co b, zb_Ls b, zb_La b, zb_Ke b)
def zb_sTo (b : zb_T) (v : Int32) : zb_T := (zb_Sz b, zb_Dr b, zb_Os b, v, zb_It b, zb_Co b, zb_Ls b, zb_La b, zb_Ke b)
def zb_sIt (b : zb_T) (v : Int32) : zb_T := (zb_Sz b, zb_Dr b, zb_Os b, zb_To b, v, zb_Co b, zb_Ls b, zb_La b, zb_Ke b)
def zb_sCo (b : zb_T) (v : Int32) : zb_T := (zb_Sz b, zb_Dr b, zb_Os b, zb_To b, zb_It b, v, zb_Ls b, zb_La b, zb_Ke b)
def zb_sLs (b : zb_T) (v : Int64) : zb_T := (zb_Sz b, zb_Dr b, zb_Os b, zb_To b, zb_It b, zb_Co b, v, zb_La b, zb_Ke b)
def zb_sLa (b : zb_T) (v : Int32) : zb_T := (zb_Sz b, zb_Dr b, zb_Os b, zb_To b, zb_It b, zb_Co b, zb_Ls b, v, zb_Ke b)
def zb_sKe (b : zb_T) (v : Int64) : zb_T := (zb_Sz b, zb_Dr b, zb_Os b, zb_To b, zb_It b, zb_Co b, zb_Ls b, zb_La b, v)
def zb_F (b : zb_T) : List Value := [.int (zb_Sz b), .int (zb_Dr b), .long (zb_Os b), .int (zb_To b), .int (zb_It b), .int (zb_Co b), .long (zb_Ls b), .int (zb_La b), .long (zb_Ke b)]
def zb_W (h : Nat) (b : zb_T) : va_W := [(h, .inr (0, zb_F b))]
abbrev zt_T : Type := (Nat → Int32) × Nat
def zt_W (ci : ClassId) (h row : Nat) (q : zt_T) : va_W := [(h, .inr (1, [.ref row, .int (nI q.2)])), (row, .inl (ci, 200, .inl q.1))]
/-- boxes, how many; the tape; what was freed, how many; time, alarms, wrong tries, until when the keypad waits -/
abbrev zl_S : Type := (Nat → zb_T) × Nat × zt_T × (Nat → Int32) × Nat × Int64 × Int32 × Int32 × Int64
def zl_B (S : zl_S) : Nat → zb_T := S.1
def zl_n (S : zl_S) : Nat := S.2.1
def zl_P (S : zl_S) : zt_T := S.2.2.1
def zl_F (S : zl_S) : Nat → Int32 := S.2.2.2.1
def zl_k (S : zl_S) : Nat := S.2.2.2.2.1
def zl_T (S : zl_S) : Int64 := S.2.2.2.2.2.1
def zl_A (S : zl_S) : Int32 := S.2.2.2.2.2.2.1
def zl_R (S : zl_S) : Int32 := S.2.2.2.2.2.2.2.1
def zl_K (S : zl_S) : Int64 := S.2.2.2.2.2.2.2.2
def zl_sB (S : zl_S) (i : Nat) (b : zb_T) : zl_S := (va_up (zl_B S) i b, zl_n S, zl_P S, zl_F S, zl_k S, zl_T S, zl_A S, zl_R S, zl_K S)
def zl_sP (S : zl_S) (q : zt_T) : zl_S := (zl_B S, zl_n S, q, zl_F S, zl_k S, zl_T S, zl_A S, zl_R S, zl_K S)
def zl_sF (S : zl_S) (f : Nat → Int32) : zl_S := (zl_B S, zl_n S, zl_P S, f, zl_k S, zl_T S, zl_A S, zl_R S, zl_K S)
def zl_sk (S : zl_S) (k : Nat) : zl_S := (zl_B S, zl_n S, zl_P S, zl_F S, k, zl_T S, zl_A S, zl_R S, zl_K S)
def zl_sT (S : zl_S) (v : Int64) : zl_S := (zl_B S, zl_n S, zl_P S, zl_F S, zl_k S, v, zl_A S, zl_R S, zl_K S)
def zl_sA (S : zl_S) (v : Int32) : zl_S := (zl_B S, zl_n S, zl_P S, zl_F S, zl_k S, zl_T S, v, zl_R S, zl_K S)
def zl_sR (S : zl_S) (v : Int32) : zl_S := (zl_B S, zl_n S, zl_P S, zl_F S, zl_k S, zl_T S, zl_A S, v, zl_K S)
def zl_sK (S : zl_S) (v : Int64) : zl_S := (zl_B S, zl_n S, zl_P S, zl_F S, zl_k S, zl_T S, zl_A S, zl_R S, v)
def zl_ok (S : zl_S) : Prop := zl_n S ≤ 60 ∧ (zl_P S).2 ≤ 200 ∧ zl_k S ≤ 100
/-- addresses: the row of boxes, the tape, its row, the row of the freed, the boxes -/
abbrev zl_Ad : Type := Nat × Nat × Nat × Nat × (Nat → Nat)
def zl_ab (a : zl_Ad) (i : Nat) : Nat := a.2.2.2.2 i
def zl_refs (n : Nat) (a : zl_Ad) : Nat → Option Nat := fun i => if i < n then some (zl_ab a i) else none
def zl_pool (a : zl_Ad) (B : Nat → zb_T) (n : Nat) : va_W := (List.range n).map (fun i => (zl_ab a i, .inr (0, zb_F (B i))))
def zl_fs (a : zl_Ad) (S : zl_S) : List Value := [.ref a.1, .int (nI (zl_n S)), .ref a.2.1, .ref a.2.2.2.1, .int (nI (zl_k S)), .long (zl_T S), .int (zl_A S), .int (zl_R S), .long (zl_K S)]
def zl_W (cq ci : ClassId) (h : Nat) (a : zl_Ad) (S : zl_S) : va_W := (h, .inr (2, zl_fs a S)) :: (a.1, .inl (cq, 60, .inr (.inr (.inr (.inr (zl_refs (zl_n S) a)))))) :: (a.2.1, .inr (1, [.ref a.2.2.1, .int (nI (zl_P S).2)])) :: (a.2.2.1, .inl (ci, 200, .inl (zl_P S).1)) :: (a.2.2.2.1, .inl (ci, 100, .inl (zl_F S))) :: zl_pool a (zl_B S) (zl_n S)
abbrev zl_tys (cq ci : ClassId) : List (ClassId × FieldType) := [(cq, .object "LockerRows$Box"), (ci, .int)]
theorem zl_pool_at {a : zl_Ad} {B : Nat → zb_T} {n i : Nat} (hi : i < n) : (zl_pool a B n)[i]? = some (zl_ab a i, .inr (0, zb_F (B i))) := by
  simp [zl_pool, hi]
theorem zl_pool_set {a : zl_Ad} {B : Nat → zb_T} {n i : Nat} (b : zb_T) (hi : i < n) : (zl_pool a B n).set i (zl_ab a i, .inr (0, zb_F b)) = zl_pool a (va_up B i b) n := by
  have hl : i < (zl_pool a B n).length := by simpa [zl_pool] using hi
  apply List.ext_getElem?
  intro j
  by_cases hj : j = i
  · subst hj
    rw [List.getElem?_set_self hl, zl_pool_at hi, va_up_self]
  · rw [List.getElem?_set_ne (Ne.symm hj)]
    by_cases h : j < n
    · rw [zl_pool_at h, zl_pool_at h, va_up_ne _ _ hj]
    · rw [List.getElem?_eq_none (by simpa [zl_pool] using h), List.getElem?_eq_none (by simpa [zl_pool] using h)]
theorem zl_box {cq ci : ClassId} {h : Nat} {a : zl_Ad} {S : zl_S} {i : Nat} (hi : i < zl_n S) : (zl_W cq ci h a S)[i + 5]? = some (zl_ab a i, .inr (0, zb_F (zl_B S i))) := by
  show (zl_pool a (zl_B S) (zl_n S))[i]? = _
  exact zl_pool_at hi
theorem zl_box_set {cq ci : ClassId} {h : Nat} {a : zl_Ad} {S : zl_S} {i : Nat} (b : zb_T) (hi : i < zl_n S) : (zl_W cq ci h a S).set (i + 5) (zl_ab a i, .inr (0, zb_F b)) = zl_W cq ci h a (zl_sB S i b) := by
  have e := zl_pool_set (a := a) (B := zl_B S) b hi
  unfold zl_W
  show _ :: _ :: _ :: _ :: _ :: (zl_pool a (zl_B S) (zl_n S)).set i _ = _
  rw [e]
  rfl
/-- behind a call that had one box -/
theorem zl_joinB {D : va_G} {cl : List vw_C} {A : Nat → Prop} {cq ci : ClassId} {h : Nat} {a : zl_Ad} {S : zl_S} {i : Nat} {b : zb_T} {H H1 : Heap} (hi : i < zl_n S) (hP : va_P D cl (zl_W cq ci h a S) H) (hD : va_D A (zl_W cq ci h a S)) (hk : ∀ q : Nat, q < H.size → ¬ va_A (zb_W (zl_ab a i) (zl_B S i)) H.size q → H1[q]? = H[q]?) (hP1 : va_P D cl (zb_W (zl_ab a i) b) H1) : va_P D cl (zl_W cq ci h a (zl_sB S i b)) H1 ∧ va_D A (zl_W cq ci h a (zl_sB S i b)) := by
  rw [← zl_box_set b hi]
  exact zw_join1 hP hD (zl_box hi) hk hP1
/-- behind a call that had the tape -/
theorem zl_joinT {D : va_G} {cl : List vw_C} {A : Nat → Prop} {cq ci : ClassId} {h : Nat} {a : zl_Ad} {S : zl_S} {q1 : zt_T} {H H1 : Heap} (hP : va_P D cl (zl_W cq ci h a S) H) (hD : va_D A (zl_W cq ci h a S)) (hk : ∀ q : Nat, q < H.size → ¬ va_A (zt_W ci a.2.1 a.2.2.1 (zl_P S)) H.size q → H1[q]? = H[q]?) (hP1 : va_P D cl (zt_W ci a.2.1 a.2.2.1 q1) H1) : va_P D cl (zl_W cq ci h a (zl_sP S q1)) H1 ∧ va_D A (zl_W cq ci h a (zl_sP S q1)) :=
  zw_join2 (k := 2) (j := 3) hP hD (by decide) rfl rfl hk hP1
/-! numbers that the walks need -/
theorem zt_lt200 {n : Nat} (h : n ≤ 200) (c : nI n < 200) : n < 200 := (nI_ltI (a := n) (b := 200) (by omega) (by omega)).mp c
theorem zt_in {n : Nat} {x : Int32} (h : n ≤ 200) (c1 : ¬ x < 0) (c2 : ¬ nI n ≤ x) : vp_in x 200 := by
  obtain ⟨j, hj, rfl⟩ := nI_of c1
  exact vp_in_nI (by have h3 : ¬ n ≤ j := fun q => c2 (nI_le q hj); omega) (by omega)
theorem zt_one {n : Nat} {x : Int32} (h : n ≤ 200) (c1 : ¬ x < 1) (c2 : x ≤ nI n) : ∃ j, 1 ≤ j ∧ j ≤ n ∧ x = nI j := by
  have h0 : ¬ x < 0 := fun q => c1 (Int32.lt_trans q (by decide))
  obtain ⟨j, hj, rfl⟩ := nI_of h0
  exact ⟨j, Nat.le_of_not_lt (fun q => c1 (nI_lt (b := 1) q (by decide))), (nI_leI hj (by omega)).mp c2, rfl⟩
theorem zt_copyok {n : Nat} {x : Int32} (h : n ≤ 200) (c1 : ¬ x < 1) (c2 : x ≤ nI n) : ¬ x < 0 ∧ ¬ (nI n - x) < 0 ∧ x.toNatClampNeg + (nI n - x).toNatClampNeg ≤ 200 ∧ (0 : Int32).toNatClampNeg + (nI n - x).toNatClampNeg ≤ 200 := by
  obtain ⟨j, h1, h2, rfl⟩ := zt_one h c1 c2
  rw [pk_sub h2, nI_clamp (by omega), nI_clamp (by omega)]
  exact ⟨nI_pos (by omega), nI_pos (by omega), by omega, by show 0 + _ ≤ _; omega⟩
theorem zt_sub {n : Nat} {x : Int32} (h : n ≤ 200) (c1 : ¬ x < 1) (c2 : x ≤ nI n) : nI n - x = nI (n - x.toNatClampNeg) := by
  obtain ⟨j, h1, h2, rfl⟩ := zt_one h c1 c2
  rw [pk_sub h2, nI_clamp (by omega)]
theorem zl_lt100 {S : zl_S} (hok : zl_ok S) (c : ¬ 100 ≤ nI (zl_k S)) : zl_k S < 100 := Nat.lt_of_not_le (fun h => c (nI_le (a := 100) h (by have := hok.2.2; omega)))
theorem zl_in100 {x : Int32} (c1 : ¬ x < 0) (c3 : ¬ 100 ≤ x) : vp_in x 100 := by
  obtain ⟨j, hj, rfl⟩ := nI_of c1
  exact vp_in_nI (Nat.lt_of_not_le (fun h => c3 (nI_le (a := 100) h hj))) (by omega)
theorem zl_idx {S : zl_S} {x : Int32} (hok : zl_ok S) (c1 : ¬ x < 1) (c2 : ¬ nI (zl_n S) < x) : (x - 1).toNatClampNeg < zl_n S ∧ vp_in (x - 1) 60 := by
  have h0 : ¬ x < 0 := fun q => c1 (Int32.lt_trans q (by decide))
  obtain ⟨j, hj, rfl⟩ := nI_of h0
  have h1 : ¬ j < 1 := fun h => c1 (nI_lt (b := 1) h (by decide))
  have h2 : j ≤ zl_n S := Nat.le_of_not_lt (fun h => c2 (nI_lt h hj))
  obtain ⟨i, rfl⟩ : ∃ i, j = i + 1 := ⟨j - 1, by omega⟩
  have h3 := hok.1
  rw [nI_pred]
  exact ⟨by rw [nI_clamp (by omega)]; omega, vp_in_nI (by omega) (by decide)⟩
theorem zb_D {A : Nat → Prop} {h : Nat} {b b1 : zb_T} (hD : va_D A (zb_W h b)) : va_D A (zb_W h b1) := by
  have h1 : va_D A ((zb_W h b).set 0 (h, .inr (0, zb_F b1))) := hD.set (p := 0) rfl
  exact h1
def zl_isSize (p1 : Int32) : Int32 :=
  if p1 < 1 then
    0
  else
  if 5 < p1 then
    0
  else
    1
def zl_isItem (p1 : Int32) : Int32 :=
  if p1 < 1 then
    0
  else
  if 9999 < p1 then
    0
  else
    1
def zl_isCode (p1 : Int32) : Int32 :=
  if p1 < 0 then
    0
  else
  if 999999 < p1 then
    0
  else
    1
def zb_isEvent (p1 : Int32) : Int32 :=
  if p1 < 0 then
    0
  else
  if 4 < p1 then
    0
  else
    1
def zb_isEmpty (b : zb_T) : Int32 :=
  if zb_It b = 0 then
    1
  else
    0
def zb_lies (b : zb_T) : Int32 :=
  if zb_Co b = (-1) then
    0
  else
    1
def zb_wantsCode (b : zb_T) : Int32 :=
  if zb_isEmpty b = 0 then
    if zb_lies b = 0 then
      1
    else
      0
  else
    0
def zb_isOpen (b : zb_T) : Int32 :=
  if zb_Dr b = 1 then
    1
  else
  if zb_Dr b = 2 then
    1
  else
    0
def zb_isUnused (b : zb_T) : Int32 :=
  if zb_Dr b = 0 then
    if zb_isEmpty b = 0 then
      0
    else
    if lg_cmp (zb_Ke b) 0 = 0 then
      1
    else
      0
  else
    0
def zb_admits (b : zb_T) (p1 : Int32) : Int32 :=
  if p1 = 0 then
    if zb_Dr b = 0 then
      1
    else
      0
  else
  if p1 = 1 then
    if zb_Dr b = 0 then
      1
    else
    if zb_Dr b = 1 then
      1
    else
      0
  else
  if p1 = 2 then
    if zb_Dr b = 2 then
      1
    else
      0
  else
  if p1 = 3 then
    zb_isUnused b
  else
  if p1 = 4 then
    if zb_Dr b = 3 then
      1
    else
      0
  else
    0
def zb_begin (b : zb_T) (p1 : Int32) (p2 : Int64) : zb_T :=
  zb_sTo (zb_sOs (zb_sDr b p1) p2) 0
def zb_undergo (b : zb_T) (p1 : Int32) (p2 : Int64) : zb_T :=
  if p1 = 0 then
    zb_begin b 1 p2
  else
  if p1 = 1 then
    zb_begin b 2 p2
  else
  if p1 = 2 then
    zb_sDr b 0
  else
  if p1 = 3 then
    zb_sDr b 3
  else
    zb_sDr b 0
def zb_receive (b : zb_T) (p1 : Int32) : zb_T :=
  zb_sKe (zb_sIt b p1) 0
def zb_lay (b : zb_T) (p1 : Int32) (p2 : Int64) : zb_T :=
  zb_sLs (zb_sCo b p1) p2
def zb_clear (b : zb_T) : zb_T :=
  zb_sLa (zb_sCo (zb_sIt b 0) (-1)) 0
def zb_free (b : zb_T) (p1 : Int64) : Int32 × zb_T :=
  if lg_cmp (zb_Ke b) 0 = 0 then
    (0, b)
  else
  if lg_cmp (zb_Ke b) p1 ≤ 0 then
    (1, zb_sKe b 0)
  else
    (0, b)
def zb_tell (b : zb_T) (p1 : Int64) : Int32 × zb_T :=
  if zb_isOpen b = 0 then
    if zb_lies b = 0 then
      (0, b)
    else
    if zb_La b = 0 then
      if lg_cmp (p1 - (zb_Ls b)) 604800 < 0 then
        (0, b)
      else
        (0 + 1, zb_sLa b 1)
    else
      (0, b)
  else
  if zb_To b = 0 then
    if lg_cmp (p1 - (zb_Os b)) 120 < 0 then
      if zb_lies b = 0 then
        (0, b)
      else
      if zb_La b = 0 then
        if lg_cmp (p1 - (zb_Ls b)) 604800 < 0 then
          (0, b)
        else
          (0 + 1, zb_sLa b 1)
      else
        (0, b)
    else
    if zb_lies (zb_sTo b 1) = 0 then
      (0 + 1, zb_sTo b 1)
    else
    if zb_La (zb_sTo b 1) = 0 then
      if lg_cmp (p1 - (zb_Ls (zb_sTo b 1))) 604800 < 0 then
        (0 + 1, zb_sTo b 1)
      else
        ((0 + 1) + 1, zb_sLa (zb_sTo b 1) 1)
    else
      (0 + 1, zb_sTo b 1)
  else
  if zb_lies b = 0 then
    (0, b)
  else
  if zb_La b = 0 then
    if lg_cmp (p1 - (zb_Ls b)) 604800 < 0 then
      (0, b)
    else
      (0 + 1, zb_sLa b 1)
  else
    (0, b)
def zb_init (b : zb_T) (p1 : Int32) : zb_T :=
  zb_sSz (zb_sKe (zb_sLa (zb_sLs (zb_sCo (zb_sIt (zb_sTo (zb_sOs (zb_sDr b 0) 0) 0) 0) (-1)) 0) 0) 0) p1
def zt_length (q : zt_T) : Int32 :=
  nI q.2
def zt_append (q : zt_T) (p1 : Int32) : Int32 × zt_T :=
  if nI q.2 < 200 then
    (1, ((upd q.1 (nI q.2).toNatClampNeg p1, q.2).1, ((upd q.1 (nI q.2).toNatClampNeg p1, q.2).2 + 1)))
  else
    (0, q)
def zt_at (q : zt_T) (p1 : Int32) : Int32 :=
  if p1 < 0 then
    (-1)
  else
  if nI q.2 ≤ p1 then
    (-1)
  else
    q.1 p1.toNatClampNeg
def zt_drop (q : zt_T) (p1 : Int32) : zt_T :=
  if p1 < 1 then
    q
  else
  if p1 ≤ nI q.2 then
    ((va_cpy q.1 q.1 p1.toNatClampNeg (0 : Int32).toNatClampNeg ((nI q.2) - p1).toNatClampNeg, q.2).1, ((va_cpy q.1 q.1 p1.toNatClampNeg (0 : Int32).toNatClampNeg ((nI q.2) - p1).toNatClampNeg, q.2).2 - p1.toNatClampNeg))
  else
    q
def zl_isTime (S : zl_S) (p1 : Int64) : Int32 :=
  if lg_cmp p1 (zl_T S) < 0 then
    0
  else
  if 0 < lg_cmp p1 2000000000 then
    0
  else
    1
def zl_boxAt (S : zl_S) (p1 : Int32) : Option Nat :=
  if p1 < 1 then
    none
  else
  if nI (zl_n S) < p1 then
    none
  else
  if 60 < p1 then
    none
  else
    some ((p1 - 1).toNatClampNeg)
def zl_fi (B : Nat → zb_T) (x : Int32) : Nat → Nat → Option Nat
  | 0, _ => none
  | k + 1, j => if zb_It (B j) = x then some j else zl_fi B x k (j + 1)
def zl_nc (B : Nat → zb_T) (x : Int32) : Nat → Nat → Int32
  | 0, _ => 0
  | k + 1, j => if zb_lies (B j) = 0 then zl_nc B x k (j + 1) else if zb_Co (B j) = x then nI (j + 1) else zl_nc B x k (j + 1)
def zl_su (B : Nat → zb_T) (x : Int32) : Nat → Nat → Int32 → Int32 → Int32
  | 0, _, b, _ => b
  | k + 1, j, b, z => if zb_isUnused (B j) = 0 then zl_su B x k (j + 1) b z else if zb_Sz (B j) < x then zl_su B x k (j + 1) b z else if z ≤ zb_Sz (B j) then zl_su B x k (j + 1) b z else zl_su B x k (j + 1) (nI (j + 1)) (zb_Sz (B j))

def zl_boxOfItem (S : zl_S) (x : Int32) : Option Nat := zl_fi (zl_B S) x (zl_n S) 0
def zl_boxNumberOfCode (S : zl_S) (x : Int32) : Int32 := zl_nc (zl_B S) x (zl_n S) 0
def zl_smallest (S : zl_S) (x : Int32) : Int32 := zl_su (zl_B S) x (zl_n S) 0 0 6
def zl_wc (S : zl_S) : Nat → Nat → Int32 × zl_S
  | 0, _ => (-1, S)
  | k + 1, j => if zl_boxNumberOfCode S (zt_at (zl_P S) (nI j)) = 0 then (zt_at (zl_P S) (nI j), zl_sP S (zt_drop (zl_P S) (nI j + 1))) else zl_wc S k (j + 1)
def zl_wanted (S : zl_S) : Int32 × zl_S := zl_wc S (zl_P S).2 0
def zl_wrong (S : zl_S) (p1 : Int64) : zl_S :=
  if zl_R (zl_sR S ((zl_R S) + 1)) < 3 then
    zl_sR S ((zl_R S) + 1)
  else
    zl_sK (zl_sR (zl_sR S ((zl_R S) + 1)) 0) (p1 + 300)
def zl_note (S : zl_S) (p1 : Int32) : zl_S :=
  if 100 ≤ nI (zl_k S) then
    S
  else
    zl_sk (zl_sF S (upd (zl_F S) (nI (zl_k S)).toNatClampNeg p1)) (zl_k (zl_sF S (upd (zl_F S) (nI (zl_k S)).toNatClampNeg p1)) + 1)
def zl_step (p1 : Int64) (j : Nat) (S1 : zl_S) : zl_S :=
  if (zb_free (zl_B S1 j) p1).1 = 0 then
    zl_sA (zl_sB (zl_sB S1 j ((zb_free (zl_B S1 j) p1).2)) j ((zb_tell (zl_B (zl_sB S1 j ((zb_free (zl_B S1 j) p1).2)) j) p1).2)) ((zl_A (zl_sB S1 j ((zb_free (zl_B S1 j) p1).2))) + ((zb_tell (zl_B (zl_sB S1 j ((zb_free (zl_B S1 j) p1).2)) j) p1).1))
  else
    zl_sA (zl_sB (zl_note (zl_sB S1 j ((zb_free (zl_B S1 j) p1).2)) (nI (j + 1))) j ((zb_tell (zl_B (zl_note (zl_sB S1 j ((zb_free (zl_B S1 j) p1).2)) (nI (j + 1))) j) p1).2)) ((zl_A (zl_note (zl_sB S1 j ((zb_free (zl_B S1 j) p1).2)) (nI (j + 1)))) + ((zb_tell (zl_B (zl_note (zl_sB S1 j ((zb_free (zl_B S1 j) p1).2)) (nI (j + 1))) j) p1).1))
def zl_pass (t : Int64) : Nat → Nat → zl_S → zl_S
  | 0, _, S => S
  | k + 1, j, S => zl_pass t k (j + 1) (zl_step t j S)
def zl_passTo (S : zl_S) (t : Int64) : zl_S := zl_pass t (zl_n S) 0 (zl_sT S t)
def zl_tape (S : zl_S) (p1 : Int32) : Int32 × zl_S :=
  if zl_isCode p1 = 0 then
    ((-12), S)
  else
  if (zt_append (zl_P S) p1).1 = 0 then
    ((-14), zl_sP S ((zt_append (zl_P S) p1).2))
  else
    (zt_length (zl_P (zl_sP S ((zt_append (zl_P S) p1).2))), zl_sP S ((zt_append (zl_P S) p1).2))
def zl_reserve (S : zl_S) (p1 : Int32) (p2 : Int64) : Int32 × zl_S :=
  if zl_isSize p1 = 0 then
    ((-12), S)
  else
  if lg_cmp p2 (zl_T S) ≤ 0 then
    ((-12), S)
  else
  if lg_cmp p2 2000000000 ≤ 0 then
    (match zl_boxAt S (zl_smallest S p1) with
    | none =>
      (0, S)
    | some i8 =>
      (zl_smallest S p1, zl_sB S i8 (zb_sKe (zl_B S i8) p2)))
  else
    ((-12), S)
def zl_put (S : zl_S) (p1 : Int32) (p2 : Int32) (p3 : Int64) : Int32 × zl_S :=
  (match zl_boxAt S p1 with
  | none =>
    ((-11), S)
  | some i1 =>
    if zl_isItem p2 = 0 then
      ((-12), S)
    else
    if zl_isTime S p3 = 0 then
      ((-12), S)
    else
    if zb_Dr (zl_B (zl_passTo S p3) i1) = 1 then
      if zb_isEmpty (zl_B (zl_passTo S p3) i1) = 0 then
        (0, zl_passTo S p3)
      else
        (match zl_boxOfItem (zl_passTo S p3) p2 with
        | none =>
          (1, zl_sB (zl_passTo S p3) i1 (zb_receive (zl_B (zl_passTo S p3) i1) p2))
        | some i15 =>
          (0, zl_passTo S p3))
    else
      (0, zl_passTo S p3))
def zl_close (S : zl_S) (p1 : Int32) (p2 : Int64) : Int32 × zl_S :=
  (match zl_boxAt S p1 with
  | none =>
    ((-11), S)
  | some i1 =>
    if zl_isTime S p2 = 0 then
      ((-12), S)
    else
    if zb_Dr (zl_B (zl_passTo S p2) i1) = 1 then
      if zb_wantsCode (zl_B (zl_passTo S p2) i1) = 0 then
        ((-1), zl_sB (zl_passTo S p2) i1 (zb_sDr (zl_B (zl_passTo S p2) i1) 0))
      else
      if (zl_wanted (zl_passTo S p2)).1 = (-1) then
        ((-14), ((zl_wanted (zl_passTo S p2)).2))
      else
        ((zl_wanted (zl_passTo S p2)).1, zl_sB (zl_sB ((zl_wanted (zl_passTo S p2)).2) i1 (zb_lay (zl_B ((zl_wanted (zl_passTo S p2)).2) i1) ((zl_wanted (zl_passTo S p2)).1) p2)) i1 (zb_sDr (zl_B (zl_sB ((zl_wanted (zl_passTo S p2)).2) i1 (zb_lay (zl_B ((zl_wanted (zl_passTo S p2)).2) i1) ((zl_wanted (zl_passTo S p2)).1) p2)) i1) 0))
    else
      ((-13), zl_passTo S p2))
def zl_type (S : zl_S) (p1 : Int32) (p2 : Int64) : Int32 × zl_S :=
  if zl_isCode p1 = 0 then
    ((-12), S)
  else
  if zl_isTime S p2 = 0 then
    ((-12), S)
  else
  if 0 ≤ lg_cmp p2 (zl_K (zl_passTo S p2)) then
    (match zl_boxAt (zl_passTo S p2) (zl_boxNumberOfCode (zl_passTo S p2) p1) with
    | none =>
      (0, zl_wrong (zl_passTo S p2) p2)
    | some i10 =>
      if zb_Dr (zl_B (zl_passTo S p2) i10) = 0 then
        (zl_boxNumberOfCode (zl_passTo S p2) p1, zl_sB (zl_sB (zl_sR (zl_passTo S p2) 0) i10 (zb_clear (zl_B (zl_sR (zl_passTo S p2) 0) i10))) i10 (zb_begin (zl_B (zl_sB (zl_sR (zl_passTo S p2) 0) i10 (zb_clear (zl_B (zl_sR (zl_passTo S p2) 0) i10))) i10) 1 p2))
      else
        (0, zl_wrong (zl_passTo S p2) p2))
  else
    ((-1), zl_passTo S p2)
def zl_code (S : zl_S) (p1 : Int32) : Int32 :=
  if zl_isItem p1 = 0 then
    (-12)
  else
    (match zl_boxOfItem S p1 with
    | none =>
      (-1)
    | some i3 =>
      zb_Co (zl_B S i3))
def zl_door (S : zl_S) (p1 : Int32) (p2 : Int32) (p3 : Int64) : Int32 × zl_S :=
  (match zl_boxAt S p1 with
  | none =>
    ((-11), S)
  | some i1 =>
    if zb_isEvent p2 = 0 then
      ((-12), S)
    else
    if zl_isTime S p3 = 0 then
      ((-12), S)
    else
    if zb_admits (zl_B (zl_passTo S p3) i1) p2 = 0 then
      ((-13), zl_passTo S p3)
    else
      (zb_Dr (zl_B (zl_sB (zl_passTo S p3) i1 (zb_undergo (zl_B (zl_passTo S p3) i1) p2 p3)) i1), zl_sB (zl_passTo S p3) i1 (zb_undergo (zl_B (zl_passTo S p3) i1) p2 p3)))
def zl_tick (S : zl_S) (p1 : Int64) : Int32 × zl_S :=
  if zl_isTime S p1 = 0 then
    ((-12), S)
  else
    (zl_A (zl_passTo S p1), zl_sA (zl_passTo S p1) 0)
def zl_take (S : zl_S) (p1 : Int32) (p2 : Int32) : Int32 × zl_S :=
  (match zl_boxAt S p1 with
  | none =>
    ((-11), S)
  | some i1 =>
    if p2 < 0 then
      ((-12), S)
    else
    if p2 ≤ 9 then
      if zb_isOpen (zl_B S i1) = 0 then
        (0, S)
      else
        (zb_It (zl_B S i1), zl_sB S i1 (zb_clear (zl_B S i1)))
    else
      ((-12), S))
def zl_item (S : zl_S) (p1 : Int32) : Int32 :=
  (match zl_boxAt S p1 with
  | none =>
    (-11)
  | some i1 =>
    if zb_La (zl_B S i1) = 0 then
      zb_It (zl_B S i1)
    else
      -(zb_It (zl_B S i1)))
def zl_freed (S : zl_S) (p1 : Int32) : Int32 :=
  if p1 < 0 then
    0
  else
  if nI (zl_k S) ≤ p1 then
    0
  else
  if 100 ≤ p1 then
    0
  else
    (zl_F S) p1.toNatClampNeg
/-! a box more, and a new object -/
def zb_0 : zb_T := (0, 0, 0, 0, 0, 0, 0, 0, 0)
def zl_new : zl_S := (fun _ => zb_0, 0, (fun _ => 0, 0), fun _ => 0, 0, 0, 0, 0, 0)
def zl_grow (S : zl_S) (b : zb_T) : zl_S := (va_up (zl_B S) (zl_n S) b, zl_n S + 1, zl_P S, zl_F S, zl_k S, zl_T S, zl_A S, zl_R S, zl_K S)
def zl_adUp (a : zl_Ad) (n q : Nat) : zl_Ad := (a.1, a.2.1, a.2.2.1, a.2.2.2.1, va_up a.2.2.2.2 n q)
theorem zl_len {cq ci : ClassId} {h : Nat} {a : zl_Ad} {S : zl_S} : (zl_W cq ci h a S).length = zl_n S + 5 := by
  simp [zl_W, zl_pool]
theorem zl_new_at {cq ci : ClassId} {h : Nat} {a : zl_Ad} {S : zl_S} (x : Nat × va_E) : (zl_W cq ci h a S ++ [x])[zl_n S + 5]? = some x := by
  rw [List.getElem?_append_right (by rw [zl_len]; exact Nat.le_refl _), zl_len, Nat.sub_self]
  rfl
theorem zl_new_set {cq ci : ClassId} {h : Nat} {a : zl_Ad} {S : zl_S} (x y : Nat × va_E) : (zl_W cq ci h a S ++ [x]).set (zl_n S + 5) y = zl_W cq ci h a S ++ [y] := by
  rw [List.set_append_right _ _ (by rw [zl_len]; exact Nat.le_refl _), zl_len, Nat.sub_self]
  rfl
theorem zl_pool_grow {a : zl_Ad} {B : Nat → zb_T} {n q : Nat} {b : zb_T} : zl_pool a B n ++ [(q, .inr (0, zb_F b))] = zl_pool (zl_adUp a n q) (va_up B n b) (n + 1) := by
  have hab : zl_ab (zl_adUp a n q) n = q := va_up_self _ _ _
  unfold zl_pool
  rw [List.range_succ, List.map_append, List.map_cons, List.map_nil, hab, va_up_self]
  congr 1
  apply List.map_congr_left
  intro i hi
  have hne : i ≠ n := Nat.ne_of_lt (List.mem_range.mp hi)
  have h1 : zl_ab (zl_adUp a n q) i = zl_ab a i := va_up_ne _ _ hne
  rw [h1, va_up_ne _ _ hne]
theorem zl_refs_grow {a : zl_Ad} {n q : Nat} : va_up (zl_refs n a) n (some q) = zl_refs (n + 1) (zl_adUp a n q) := by
  funext i
  by_cases hi : i = n
  · subst hi
    rw [va_up_self]
    have hab : zl_ab (zl_adUp a i q) i = q := va_up_self _ _ _
    simp [zl_refs, hab]
  · rw [va_up_ne _ _ hi]
    have hab : zl_ab (zl_adUp a n q) i = zl_ab a i := va_up_ne _ _ hi
    simp only [zl_refs, hab]
    by_cases h : i < n
    · rw [if_pos h, if_pos (by omega)]
    · rw [if_neg h, if_neg (by omega)]
theorem zl_grow_eq {cq ci : ClassId} {h q : Nat} {a : zl_Ad} {S : zl_S} {b : zb_T} : ((zl_W cq ci h a S ++ ([(q, .inr (0, zb_F b))] : va_W) : va_W).set 1 (a.1, .inl (cq, 60, .inr (.inr (.inr (.inr (va_up (zl_refs (zl_n S) a) (zl_n S) (some q)))))))).set 0 (h, .inr (2, (zl_fs a S).set 1 (.int (nI (zl_n S + 1))))) = zl_W cq ci h (zl_adUp a (zl_n S) q) (zl_grow S b) := by
  rw [zl_refs_grow]
  unfold zl_W
  show _ :: _ :: _ :: _ :: _ :: (zl_pool a (zl_B S) (zl_n S) ++ ([(q, .inr (0, zb_F b))] : va_W)) = _
  rw [zl_pool_grow]
  rfl
theorem zl_refs0 (a : zl_Ad) : (fun _ => none) = zl_refs 0 a := by
  funext i
  simp [zl_refs]
theorem zl_lt60 {S : zl_S} (hok : zl_ok S) (c : nI (zl_n S) < 60) : zl_n S < 60 := (nI_ltI (a := zl_n S) (b := 60) (by have := hok.1; omega) (by omega)).mp c
theorem zw_sameI {D : va_G} {cl : List vw_C} {tys : List (ClassId × FieldType)} {s : State} {c1 c2 : ClassId} {i j : Nat} (hK : va_K D cl tys s) (h1 : tys[i]? = some (c1, .int)) (h2 : tys[j]? = some (c2, .int)) : c1 = c2 := Option.some.inj (((hK.2 i _ h1).2).symm.trans (hK.2 j _ h2).2)
def zl_addbox (S : zl_S) (p1 : Int32) : Int32 × zl_S :=
  if zl_isSize p1 = 0 then
    ((-12), S)
  else
  if nI (zl_n S) < 60 then
    (nI (zl_n S + 1), zl_grow S (zb_init zb_0 p1))
  else
    ((-14), S)
theorem zl_boxAt_lt {S : zl_S} {x : Int32} {i : Nat} (hok : zl_ok S) (h : zl_boxAt S x = some i) : i < zl_n S := by
  unfold zl_boxAt at h
  by_cases c1 : x < 1
  · rw [if_pos c1] at h; cases h
  · rw [if_neg c1] at h
    by_cases c2 : nI (zl_n S) < x
    · rw [if_pos c2] at h; cases h
    · rw [if_neg c2] at h
      by_cases c3 : 60 < x
      · rw [if_pos c3] at h; cases h
      · rw [if_neg c3] at h
        rw [← Option.some.inj h]
        exact (zl_idx hok c1 c2).1
theorem zl_boxAt_nI {S : zl_S} {j : Nat} (hok : zl_ok S) (hj : j < zl_n S) : zl_boxAt S (nI (j + 1)) = some j := by
  have h3 := hok.1
  unfold zl_boxAt
  rw [if_neg (show ¬ nI (j + 1) < 1 from nI_nlt (b := 1) (by omega) (by omega)), if_neg (nI_nlt (by omega) (by omega)), if_neg (show ¬ 60 < nI (j + 1) from nI_nlt (a := 60) (by omega) (by omega)), nI_pred, nI_clamp (by omega)]
theorem zl_fi_lt {B : Nat → zb_T} {x : Int32} : ∀ {k j i : Nat}, zl_fi B x k j = some i → i < j + k := by
  intro k
  induction k with
  | zero => intro j i h; simp [zl_fi] at h
  | succ k ih =>
    intro j i h
    unfold zl_fi at h
    by_cases c : zb_It (B j) = x
    · rw [if_pos c] at h
      have := Option.some.inj h
      omega
    · rw [if_neg c] at h
      have := ih h
      omega
theorem zl_boxOfItem_lt {S : zl_S} {x : Int32} {i : Nat} (_ : zl_ok S) (h : zl_boxOfItem S x = some i) : i < zl_n S := by
  have := zl_fi_lt h
  omega
theorem zb_isUnused_01 (b : zb_T) : zb_isUnused b = 0 ∨ zb_isUnused b = 1 := by
  unfold zb_isUnused
  by_cases c1 : zb_Dr b = 0
  · rw [if_pos c1]
    by_cases c2 : zb_isEmpty b = 0
    · rw [if_pos c2]; exact Or.inl rfl
    · rw [if_neg c2]
      by_cases c3 : lg_cmp (zb_Ke b) 0 = 0
      · rw [if_pos c3]; exact Or.inr rfl
      · rw [if_neg c3]; exact Or.inl rfl
  · rw [if_neg c1]; exact Or.inl rfl
theorem zb_isUnused_nar (b : zb_T) : narrow .boolean (.int (zb_isUnused b)) = .int (zb_isUnused b) := by
  rcases zb_isUnused_01 b with h | h <;> rw [h] <;> rfl
theorem zt_append_le {q : zt_T} {x : Int32} (h : q.2 ≤ 200) : (zt_append q x).2.2 ≤ 200 := by
  unfold zt_append
  by_cases c : nI q.2 < 200
  · rw [if_pos c]
    have := zt_lt200 h c
    show q.2 + 1 ≤ 200
    omega
  · rw [if_neg c]; exact h
theorem zl_ok_append {S : zl_S} {x : Int32} (hok : zl_ok S) : zl_ok (zl_sP S (zt_append (zl_P S) x).2) := ⟨hok.1, zt_append_le hok.2.1, hok.2.2⟩
theorem zt_drop_le {q : zt_T} {x : Int32} (h : q.2 ≤ 200) : (zt_drop q x).2 ≤ 200 := by
  unfold zt_drop
  by_cases c1 : x < 1
  · rw [if_pos c1]; exact h
  · rw [if_neg c1]
    by_cases c2 : x ≤ nI q.2
    · rw [if_pos c2]
      show q.2 - _ ≤ 200
      omega
    · rw [if_neg c2]; exact h
theorem zl_ok_drop {S : zl_S} {x : Int32} (hok : zl_ok S) : zl_ok (zl_sP S (zt_drop (zl_P S) x)) := ⟨hok.1, zt_drop_le hok.2.1, hok.2.2⟩
theorem zl_wc_ok {S : zl_S} (hok : zl_ok S) : ∀ (k j : Nat), zl_ok (zl_wc S k j).2 ∧ zl_n (zl_wc S k j).2 = zl_n S := by
  intro k
  induction k with
  | zero => intro j; exact ⟨hok, rfl⟩
  | succ k ih =>
    intro j
    unfold zl_wc
    by_cases c : zl_boxNumberOfCode S (zt_at (zl_P S) (nI j)) = 0
    · rw [if_pos c]; exact ⟨zl_ok_drop hok, rfl⟩
    · rw [if_neg c]; exact ih (j + 1)
theorem zl_wc_n {S : zl_S} : ∀ (k j : Nat), zl_n (zl_wc S k j).2 = zl_n S := by
  intro k
  induction k with
  | zero => intro j; rfl
  | succ k ih =>
    intro j
    unfold zl_wc
    by_cases c : zl_boxNumberOfCode S (zt_at (zl_P S) (nI j)) = 0
    · rw [if_pos c]; rfl
    · rw [if_neg c]; exact ih (j + 1)
theorem zl_ok_wanted {S : zl_S} (hok : zl_ok S) : zl_ok (zl_wanted S).2 := (zl_wc_ok hok _ _).1
theorem zl_n_wanted {S : zl_S} : zl_n (zl_wanted S).2 = zl_n S := zl_wc_n _ _
theorem zl_n_wrong {S : zl_S} {t : Int64} : zl_n (zl_wrong S t) = zl_n S := by
  unfold zl_wrong
  split <;> rfl
theorem zl_ok_wrong {S : zl_S} {t : Int64} (hok : zl_ok S) : zl_ok (zl_wrong S t) := by
  unfold zl_wrong
  split <;> exact hok
theorem zl_n_note {S : zl_S} {x : Int32} : zl_n (zl_note S x) = zl_n S := by
  unfold zl_note
  split <;> rfl
theorem zl_ok_note {S : zl_S} {x : Int32} (hok : zl_ok S) : zl_ok (zl_note S x) := by
  unfold zl_note
  by_cases c : 100 ≤ nI (zl_k S)
  · rw [if_pos c]; exact hok
  · rw [if_neg c]
    have := zl_lt100 hok c
    exact ⟨hok.1, hok.2.1, by show zl_k S + 1 ≤ 100; omega⟩
theorem zl_n_step {S : zl_S} {t : Int64} {j : Nat} : zl_n (zl_step t j S) = zl_n S := by
  unfold zl_step
  split
  · rfl
  · exact zl_n_note (S := zl_sB S j (zb_free (zl_B S j) t).2)
theorem zl_ok_step {S : zl_S} {t : Int64} {j : Nat} (hok : zl_ok S) : zl_ok (zl_step t j S) := by
  unfold zl_step
  split
  · exact hok
  · exact zl_ok_note (S := zl_sB S j (zb_free (zl_B S j) t).2) hok
theorem zl_pass_ok {t : Int64} : ∀ (k j : Nat) (S : zl_S), zl_ok S → zl_ok (zl_pass t k j S) := by
  intro k
  induction k with
  | zero => intro j S h; exact h
  | succ k ih => intro j S h; exact ih (j + 1) _ (zl_ok_step h)
theorem zl_pass_n {t : Int64} : ∀ (k j : Nat) (S : zl_S), zl_n (zl_pass t k j S) = zl_n S := by
  intro k
  induction k with
  | zero => intro j S; rfl
  | succ k ih => intro j S; exact (ih (j + 1) _).trans zl_n_step
theorem zl_ok_pass {S : zl_S} {t : Int64} (hok : zl_ok S) : zl_ok (zl_passTo S t) := zl_pass_ok _ _ (zl_sT S t) hok
theorem zl_n_pass {S : zl_S} {t : Int64} : zl_n (zl_passTo S t) = zl_n S := zl_pass_n _ _ (zl_sT S t)
end
section
set_option maxHeartbeats 4000000 in
set_option maxRecDepth 100000 in
theorem ct_L_isSize (l : Launch) (dC : Nat → ClassId) (dI : Nat → Nat → Nat) (cq ci : ClassId) (p1 : Int32) : Met l yz_L_isSize wz_L_isSize (zw_room 0 0 0) (zw_R zw_ns (dC, dI) vwCl (zl_tys cq ci) [.int p1] []) (vp_Si (fun r => r = zl_isSize p1)) 0 0 (fun _ => False) := by
  refine Met.ofW (cc := cz_L_isSize) (maxL := 1) (ret := (some .boolean)) (by decide) rfl ?_
  intro p e s m args below meth c s₁ B hml hv
  obtain ⟨rfl, hP, hK, hN⟩ := hv
  have hx := B.exec
  have hb := B.bytes
  have hr := B.returns
  have hts := atoms_spec (ws := wz_L_isSize) B.pre
  have hz : ∀ w ∈ zw_T, w.before ([.int p1] : List Value).toArray s = true := fun w h => hts w (List.mem_cons_of_mem _ h)
  have hown : s.vm.findClass RzL = some m.cls := findClass_of_methodNamed B.named
  have hlocks := B.notSynchronized
  have hl := lv_entry ([.int p1]) (n := 1) (Nat.le_of_ble_eq_true rfl)
  rw [lg_entry_eq]
  generalize (lg_sl ([.int p1]) ++ List.replicate (1 - (lg_sl ([.int p1])).length) Slot.unset).toArray = ls at hl ⊢
  have hl : lv_has ls 1 [(0, .int p1)] := hl
  refine lv_iload_n hx hb dz_L_isSize_0 rfl (lv_at hl 0 rfl) ?_
  refine lv_iconst (v := 1) hx hb dz_L_isSize_1 (by decide) ?_
  refine lv_icmp_lt (tgt := 14) hx hb dz_L_isSize_2 (by decide) (fun c_1 => ?_) (fun c_1 => ?_)
  · refine lv_iconst (v := 0) hx hb dz_L_isSize_14 (by decide) ?_
    exact W.zret (v := 0) (ty := .boolean) hx hb hr rfl (fun t ht hW => ⟨_, rfl, by simp only [zl_isSize, if_pos c_1], ht⟩) (fun _ h => by cases h) dz_L_isSize_15
  · refine lv_iload_n hx hb dz_L_isSize_5 rfl (lv_at hl 0 rfl) ?_
    refine lv_iconst (v := 5) hx hb dz_L_isSize_6 (by decide) ?_
    refine lv_icmp_gt (tgt := 14) hx hb dz_L_isSize_7 (by decide) (fun c_2 => ?_) (fun c_2 => ?_)
    · refine lv_iconst (v := 0) hx hb dz_L_isSize_14 (by decide) ?_
      exact W.zret (v := 0) (ty := .boolean) hx hb hr rfl (fun t ht hW => ⟨_, rfl, by simp only [zl_isSize, if_neg c_1, if_pos c_2], ht⟩) (fun _ h => by cases h) dz_L_isSize_15
    · refine lv_iconst (v := 1) hx hb dz_L_isSize_10 (by decide) ?_
      refine lv_goto (tgt := 15) hx hb dz_L_isSize_11 (by decide) ?_
      exact W.zret (v := 1) (ty := .boolean) hx hb hr rfl (fun t ht hW => ⟨_, rfl, by simp only [zl_isSize, if_neg c_1, if_neg c_2], ht⟩) (fun _ h => by cases h) dz_L_isSize_15
set_option maxHeartbeats 4000000 in
set_option maxRecDepth 100000 in
theorem ct_L_isItem (l : Launch) (dC : Nat → ClassId) (dI : Nat → Nat → Nat) (cq ci : ClassId) (p1 : Int32) : Met l yz_L_isItem wz_L_isItem (zw_room 0 0 0) (zw_R zw_ns (dC, dI) vwCl (zl_tys cq ci) [.int p1] []) (vp_Si (fun r => r = zl_isItem p1)) 0 0 (fun _ => False) := by
  refine Met.ofW (cc := cz_L_isItem) (maxL := 1) (ret := (some .boolean)) (by decide) rfl ?_
  intro p e s m args below meth c s₁ B hml hv
  obtain ⟨rfl, hP, hK, hN⟩ := hv
  have hx := B.exec
  have hb := B.bytes
  have hr := B.returns
  have hts := atoms_spec (ws := wz_L_isItem) B.pre
  have hz : ∀ w ∈ zw_T, w.before ([.int p1] : List Value).toArray s = true := fun w h => hts w (List.mem_cons_of_mem _ h)
  have hown : s.vm.findClass RzL = some m.cls := findClass_of_methodNamed B.named
  have hlocks := B.notSynchronized
  have hl := lv_entry ([.int p1]) (n := 1) (Nat.le_of_ble_eq_true rfl)
  rw [lg_entry_eq]
  generalize (lg_sl ([.int p1]) ++ List.replicate (1 - (lg_sl ([.int p1])).length) Slot.unset).toArray = ls at hl ⊢
  have hl : lv_has ls 1 [(0, .int p1)] := hl
  refine lv_iload_n hx hb dz_L_isItem_0 rfl (lv_at hl 0 rfl) ?_
  refine lv_iconst (v := 1) hx hb dz_L_isItem_1 (by decide) ?_
  refine lv_icmp_lt (tgt := 16) hx hb dz_L_isItem_2 (by decide) (fun c_1 => ?_) (fun c_1 => ?_)
  · refine lv_iconst (v := 0) hx hb dz_L_isItem_16 (by decide) ?_
    exact W.zret (v := 0) (ty := .boolean) hx hb hr rfl (fun t ht hW => ⟨_, rfl, by simp only [zl_isItem, if_pos c_1], ht⟩) (fun _ h => by cases h) dz_L_isItem_17
  · refine lv_iload_n hx hb dz_L_isItem_5 rfl (lv_at hl 0 rfl) ?_
    refine lv_sipush (v := 9999) hx hb dz_L_isItem_6 (by decide) ?_
    refine lv_icmp_gt (tgt := 16) hx hb dz_L_isItem_9 (by decide) (fun c_2 => ?_) (fun c_2 => ?_)
    · refine lv_iconst (v := 0) hx hb dz_L_isItem_16 (by decide) ?_
      exact W.zret (v := 0) (ty := .boolean) hx hb hr rfl (fun t ht hW => ⟨_, rfl, by simp only [zl_isItem, if_neg c_1, if_pos c_2], ht⟩) (fun _ h => by cases h) dz_L_isItem_17
    · refine lv_iconst (v := 1) hx hb dz_L_isItem_12 (by decide) ?_
      refine lv_goto (tgt := 17) hx hb dz_L_isItem_13 (by decide) ?_
      exact W.zret (v := 1) (ty := .boolean) hx hb hr rfl (fun t ht hW => ⟨_, rfl, by simp only [zl_isItem, if_neg c_1, if_neg c_2], ht⟩) (fun _ h => by cases h) dz_L_isItem_17
set_option maxHeartbeats 4000000 in
set_option maxRecDepth 100000 in
theorem ct_L_isCode (l : Launch) (dC : Nat → ClassId) (dI : Nat → Nat → Nat) (cq ci : ClassId) (p1 : Int32) : Met l yz_L_isCode wz_L_isCode (zw_room 0 0 0) (zw_R zw_ns (dC, dI) vwCl (zl_tys cq ci) [.int p1] []) (vp_Si (fun r => r = zl_isCode p1)) 0 0 (fun _ => False) := by
  refine Met.ofW (cc := cz_L_isCode) (maxL := 1) (ret := (some .boolean)) (by decide) rfl ?_
  intro p e s m args below meth c s₁ B hml hv
  obtain ⟨rfl, hP, hK, hN⟩ := hv
  have hx := B.exec
  have hb := B.bytes
  have hr := B.returns
  have hts := atoms_spec (ws := wz_L_isCode) B.pre
  have hz : ∀ w ∈ zw_T, w.before ([.int p1] : List Value).toArray s = true := fun w h => hts w (List.mem_cons_of_mem _ h)
  have hown : s.vm.findClass RzL = some m.cls := findClass_of_methodNamed B.named
  have hlocks := B.notSynchronized
  have hl := lv_entry ([.int p1]) (n := 1) (Nat.le_of_ble_eq_true rfl)
  rw [lg_entry_eq]
  generalize (lg_sl ([.int p1]) ++ List.replicate (1 - (lg_sl ([.int p1])).length) Slot.unset).toArray = ls at hl ⊢
  have hl : lv_has ls 1 [(0, .int p1)] := hl
  refine lv_iload_n hx hb dz_L_isCode_0 rfl (lv_at hl 0 rfl) ?_
  refine lv_if_lt (tgt := 14) hx hb dz_L_isCode_1 (by decide) (fun c_1 => ?_) (fun c_1 => ?_)
  · refine lv_iconst (v := 0) hx hb dz_L_isCode_14 (by decide) ?_
    exact W.zret (v := 0) (ty := .boolean) hx hb hr rfl (fun t ht hW => ⟨_, rfl, by simp only [zl_isCode, if_pos c_1], ht⟩) (fun _ h => by cases h) dz_L_isCode_15
  · refine lv_iload_n hx hb dz_L_isCode_4 rfl (lv_at hl 0 rfl) ?_
    refine lv_ldc (v := 999999) hx hb hown (hz _ zi_111) dz_L_isCode_5 ?_
    refine lv_icmp_gt (tgt := 14) hx hb dz_L_isCode_7 (by decide) (fun c_2 => ?_) (fun c_2 => ?_)
    · refine lv_iconst (v := 0) hx hb dz_L_isCode_14 (by decide) ?_
      exact W.zret (v := 0) (ty := .boolean) hx hb hr rfl (fun t ht hW => ⟨_, rfl, by simp only [zl_isCode, if_neg c_1, if_pos c_2], ht⟩) (fun _ h => by cases h) dz_L_isCode_15
    · refine lv_iconst (v := 1) hx hb dz_L_isCode_10 (by decide) ?_
      refine lv_goto (tgt := 15) hx hb dz_L_isCode_11 (by decide) ?_
      exact W.zret (v := 1) (ty := .boolean) hx hb hr rfl (fun t ht hW => ⟨_, rfl, by simp only [zl_isCode, if_neg c_1, if_neg c_2], ht⟩) (fun _ h => by cases h) dz_L_isCode_15
set_option maxHeartbeats 4000000 in
set_option maxRecDepth 100000 in
theorem ct_B_isEvent (l : Launch) (dC : Nat → ClassId) (dI : Nat → Nat → Nat) (cq ci : ClassId) (p1 : Int32) : Met l yz_B_isEvent wz_B_isEvent (zw_room 0 0 0) (zw_R zw_ns (dC, dI) vwCl (zl_tys cq ci) [.int p1] []) (vp_Si (fun r => r = zb_isEvent p1)) 0 0 (fun _ => False) := by
  refine Met.ofW (cc := cz_B_isEvent) (maxL := 1) (ret := (some .boolean)) (by decide) rfl ?_
  intro p e s m args below meth c s₁ B hml hv
  obtain ⟨rfl, hP, hK, hN⟩ := hv
  have hx := B.exec
  have hb := B.bytes
  have hr := B.returns
  have hts := atoms_spec (ws := wz_B_isEvent) B.pre
  have hz : ∀ w ∈ zw_T, w.before ([.int p1] : List Value).toArray s = true := fun w h => hts w (List.mem_cons_of_mem _ h)
  have hown : s.vm.findClass RzB = some m.cls := findClass_of_methodNamed B.named
  have hlocks := B.notSynchronized
  have hl := lv_entry ([.int p1]) (n := 1) (Nat.le_of_ble_eq_true rfl)
  rw [lg_entry_eq]
  generalize (lg_sl ([.int p1]) ++ List.replicate (1 - (lg_sl ([.int p1])).length) Slot.unset).toArray = ls at hl ⊢
  have hl : lv_has ls 1 [(0, .int p1)] := hl
  refine lv_iload_n hx hb dz_B_isEvent_0 rfl (lv_at hl 0 rfl) ?_
  refine lv_if_lt (tgt := 13) hx hb dz_B_isEvent_1 (by decide) (fun c_1 => ?_) (fun c_1 => ?_)
  · refine lv_iconst (v := 0) hx hb dz_B_isEvent_13 (by decide) ?_
    exact W.zret (v := 0) (ty := .boolean) hx hb hr rfl (fun t ht hW => ⟨_, rfl, by simp only [zb_isEvent, if_pos c_1], ht⟩) (fun _ h => by cases h) dz_B_isEvent_14
  · refine lv_iload_n hx hb dz_B_isEvent_4 rfl (lv_at hl 0 rfl) ?_
    refine lv_iconst (v := 4) hx hb dz_B_isEvent_5 (by decide) ?_
    refine lv_icmp_gt (tgt := 13) hx hb dz_B_isEvent_6 (by decide) (fun c_2 => ?_) (fun c_2 => ?_)
    · refine lv_iconst (v := 0) hx hb dz_B_isEvent_13 (by decide) ?_
      exact W.zret (v := 0) (ty := .boolean) hx hb hr rfl (fun t ht hW => ⟨_, rfl, by simp only [zb_isEvent, if_neg c_1, if_pos c_2], ht⟩) (fun _ h => by cases h) dz_B_isEvent_14
    · refine lv_iconst (v := 1) hx hb dz_B_isEvent_9 (by decide) ?_
      refine lv_goto (tgt := 14) hx hb dz_B_isEvent_10 (by decide) ?_
      exact W.zret (v := 1) (ty := .boolean) hx hb hr rfl (fun t ht hW => ⟨_, rfl, by simp only [zb_isEvent, if_neg c_1, if_neg c_2], ht⟩) (fun _ h => by cases h) dz_B_isEvent_14
set_option maxHeartbeats 4000000 in
set_option maxRecDepth 100000 in
theorem ct_B_isEmpty (l : Launch) (dC : Nat → ClassId) (dI : Nat → Nat → Nat) (cq ci : ClassId) (h0 : Nat) (b : zb_T) : Met l yz_B_isEmpty wz_B_isEmpty (zw_room 0 0 0) (zw_R zw_ns (dC, dI) vwCl (zl_tys cq ci) [.ref h0] (zb_W h0 b)) (vp_Si (fun r => r = zb_isEmpty b)) 0 0 (fun _ => False) := by
  refine Met.ofW (cc := cz_B_isEmpty) (maxL := 1) (ret := (some .boolean)) (by decide) rfl ?_
  intro p e s m args below meth c s₁ B hml hv
  obtain ⟨rfl, hP, hK, hN⟩ := hv
  have hx := B.exec
  have hb := B.bytes
  have hr := B.returns
  have hts := atoms_spec (ws := wz_B_isEmpty) B.pre
  have hz : ∀ w ∈ zw_T, w.before ([.ref h0] : List Value).toArray s = true := fun w h => hts w (List.mem_cons_of_mem _ h)
  have hown : s.vm.findClass RzB = some m.cls := findClass_of_methodNamed B.named
  have hlocks := B.notSynchronized
  have hl := lv_entry ([.ref h0]) (n := 1) (Nat.le_of_ble_eq_true rfl)
  rw [lg_entry_eq]
  generalize (lg_sl ([.ref h0]) ++ List.replicate (1 - (lg_sl ([.ref h0])).length) Slot.unset).toArray = ls at hl ⊢
  have hl : lv_has ls 1 [(0, .ref h0)] := hl
  refine lv_aload_n hx hb dz_B_isEmpty_0 rfl (lv_at hl 0 rfl) ?_
  refine va_get (D := (dC, dI)) (ci := 0) (v := .int (zb_It b)) (C := RzB) (T := TzB) (N := 9) hx hb hz inzB hown hK hP 0 rfl rfl 4 (by decide) (hz _ zi_90) (fun _ h9 => h9) rfl dz_B_isEmpty_1 ?_
  refine lv_if_ne (tgt := 11) hx hb dz_B_isEmpty_4 (by decide) (fun c_1 => ?_) (fun c_1 => ?_)
  · refine lv_iconst (v := 0) hx hb dz_B_isEmpty_11 (by decide) ?_
    exact W.zret (v := 0) (ty := .boolean) hx hb hr rfl (fun t ht hW => ⟨_, rfl, by simp only [zb_isEmpty, if_neg c_1], ht⟩) (fun _ h => by cases h) dz_B_isEmpty_12
  · refine lv_iconst (v := 1) hx hb dz_B_isEmpty_7 (by decide) ?_
    refine lv_goto (tgt := 12) hx hb dz_B_isEmpty_8 (by decide) ?_
    exact W.zret (v := 1) (ty := .boolean) hx hb hr rfl (fun t ht hW => ⟨_, rfl, by simp only [zb_isEmpty, if_pos c_1], ht⟩) (fun _ h => by cases h) dz_B_isEmpty_12
set_option maxHeartbeats 4000000 in
set_option maxRecDepth 100000 in
theorem ct_B_lies (l : Launch) (dC : Nat → ClassId) (dI : Nat → Nat → Nat) (cq ci : ClassId) (h0 : Nat) (b : zb_T) : Met l yz_B_lies wz_B_lies (zw_room 0 0 0) (zw_R zw_ns (dC, dI) vwCl (zl_tys cq ci) [.ref h0] (zb_W h0 b)) (vp_Si (fun r => r = zb_lies b)) 0 0 (fun _ => False) := by
  refine Met.ofW (cc := cz_B_lies) (maxL := 1) (ret := (some .boolean)) (by decide) rfl ?_
  intro p e s m args below meth c s₁ B hml hv
  obtain ⟨rfl, hP, hK, hN⟩ := hv
  have hx := B.exec
  have hb := B.bytes
  have hr := B.returns
  have hts := atoms_spec (ws := wz_B_lies) B.pre
  have hz : ∀ w ∈ zw_T, w.before ([.ref h0] : List Value).toArray s = true := fun w h => hts w (List.mem_cons_of_mem _ h)
  have hown : s.vm.findClass RzB = some m.cls := findClass_of_methodNamed B.named
  have hlocks := B.notSynchronized
  have hl := lv_entry ([.ref h0]) (n := 1) (Nat.le_of_ble_eq_true rfl)
  rw [lg_entry_eq]
  generalize (lg_sl ([.ref h0]) ++ List.replicate (1 - (lg_sl ([.ref h0])).length) Slot.unset).toArray = ls at hl ⊢
  have hl : lv_has ls 1 [(0, .ref h0)] := hl
  refine lv_aload_n hx hb dz_B_lies_0 rfl (lv_at hl 0 rfl) ?_
  refine va_get (D := (dC, dI)) (ci := 0) (v := .int (zb_Co b)) (C := RzB) (T := TzB) (N := 9) hx hb hz inzB hown hK hP 0 rfl rfl 5 (by decide) (hz _ zi_91) (fun _ h9 => h9) rfl dz_B_lies_1 ?_
  refine lv_iconst (v := -1) hx hb dz_B_lies_4 (by decide) ?_
  refine lv_icmp_eq (tgt := 12) hx hb dz_B_lies_5 (by decide) (fun c_1 => ?_) (fun c_1 => ?_)
  · refine lv_iconst (v := 0) hx hb dz_B_lies_12 (by decide) ?_
    exact W.zret (v := 0) (ty := .boolean) hx hb hr rfl (fun t ht hW => ⟨_, rfl, by simp only [zb_lies, if_pos c_1], ht⟩) (fun _ h => by cases h) dz_B_lies_13
  · refine lv_iconst (v := 1) hx hb dz_B_lies_8 (by decide) ?_
    refine lv_goto (tgt := 13) hx hb dz_B_lies_9 (by decide) ?_
    exact W.zret (v := 1) (ty := .boolean) hx hb hr rfl (fun t ht hW => ⟨_, rfl, by simp only [zb_lies, if_neg c_1], ht⟩) (fun _ h => by cases h) dz_B_lies_13
set_option maxHeartbeats 4000000 in
set_option maxRecDepth 100000 in
theorem ct_B_wantsCode (l : Launch) (dC : Nat → ClassId) (dI : Nat → Nat → Nat) (cq ci : ClassId) (h0 : Nat) (b : zb_T) : Met l yz_B_wantsCode wz_B_wantsCode (zw_room 1 0 0) (zw_R zw_ns (dC, dI) vwCl (zl_tys cq ci) [.ref h0] (zb_W h0 b)) (vp_Si (fun r => r = zb_wantsCode b)) 0 0 (fun _ => False) := by
  refine Met.ofW (cc := cz_B_wantsCode) (maxL := 1) (ret := (some .boolean)) (by decide) rfl ?_
  intro p e s m args below meth c s₁ B hml hv
  obtain ⟨rfl, hP, hK, hN⟩ := hv
  have hx := B.exec
  have hb := B.bytes
  have hr := B.returns
  have hts := atoms_spec (ws := wz_B_wantsCode) B.pre
  have hz : ∀ w ∈ zw_T, w.before ([.ref h0] : List Value).toArray s = true := fun w h => hts w (List.mem_cons_of_mem _ h)
  have hown : s.vm.findClass RzB = some m.cls := findClass_of_methodNamed B.named
  have hlocks := B.notSynchronized
  have hl := lv_entry ([.ref h0]) (n := 1) (Nat.le_of_ble_eq_true rfl)
  rw [lg_entry_eq]
  generalize (lg_sl ([.ref h0]) ++ List.replicate (1 - (lg_sl ([.ref h0])).length) Slot.unset).toArray = ls at hl ⊢
  have hl : lv_has ls 1 [(0, .ref h0)] := hl
  refine lv_aload_n hx hb dz_B_wantsCode_0 rfl (lv_at hl 0 rfl) ?_
  refine vp_callSi (va_Run.run (va_runV (As := []) (rest := []) ⟨hx, hb, hml, hown, hz⟩ (ct_B_isEmpty l dC dI cq ci h0 b) (cwV 0 hz (zw_gV zi_129 zi_130 zi_5 zi_36 zi_131) rfl rfl rfl (by decide +kernel) ⟨Nat.le_of_ble_eq_true rfl, Nat.le_of_ble_eq_true rfl⟩) (zw_preRV zw_ns_ok hP hK hN (ci := 0) rfl (k := 0) rfl) rfl rfl hl.1 rfl (lv_room (Nat.le_of_ble_eq_true rfl)) dz_B_wantsCode_1 ⟨Nat.le_of_ble_eq_true rfl, Nat.le_of_ble_eq_true rfl⟩)) (fun r_1 hr_1 => ?_)
  have hr_1 : r_1 = zb_isEmpty b := hr_1
  subst hr_1
  refine lv_if_ne (tgt := 18) hx hb dz_B_wantsCode_4 (by decide) (fun c_2 => ?_) (fun c_2 => ?_)
  · refine lv_iconst (v := 0) hx hb dz_B_wantsCode_18 (by decide) ?_
    exact W.zret (v := 0) (ty := .boolean) hx hb hr rfl (fun t ht hW => ⟨_, rfl, by simp only [zb_wantsCode, if_neg c_2], ht⟩) (fun _ h => by cases h) dz_B_wantsCode_19
  · refine lv_aload_n hx hb dz_B_wantsCode_7 rfl (lv_at hl 0 rfl) ?_
    refine vp_callSi (va_Run.run (va_runV (As := []) (rest := []) ⟨hx, hb, hml, hown, hz⟩ (ct_B_lies l dC dI cq ci h0 b) (cwV 0 hz (zw_gV zi_156 zi_157 zi_12 zi_36 zi_158) rfl rfl rfl (by decide +kernel) ⟨Nat.le_of_ble_eq_true rfl, Nat.le_of_ble_eq_true rfl⟩) (zw_preRV zw_ns_ok hP hK hN (ci := 0) rfl (k := 0) rfl) rfl rfl hl.1 rfl (lv_room (Nat.le_of_ble_eq_true rfl)) dz_B_wantsCode_8 ⟨Nat.le_of_ble_eq_true rfl, Nat.le_of_ble_eq_true rfl⟩)) (fun r_3 hr_3 => ?_)
    have hr_3 : r_3 = zb_lies b := hr_3
    subst hr_3
    refine lv_if_ne (tgt := 18) hx hb dz_B_wantsCode_11 (by decide) (fun c_4 => ?_) (fun c_4 => ?_)
    · refine lv_iconst (v := 0) hx hb dz_B_wantsCode_18 (by decide) ?_
      exact W.zret (v := 0) (ty := .boolean) hx hb hr rfl (fun t ht hW => ⟨_, rfl, by simp only [zb_wantsCode, if_pos c_2, if_neg c_4], ht⟩) (fun _ h => by cases h) dz_B_wantsCode_19
    · refine lv_iconst (v := 1) hx hb dz_B_wantsCode_14 (by decide) ?_
      refine lv_goto (tgt := 19) hx hb dz_B_wantsCode_15 (by decide) ?_
      exact W.zret (v := 1) (ty := .boolean) hx hb hr rfl (fun t ht hW => ⟨_, rfl, by simp only [zb_wantsCode, if_pos c_2, if_pos c_4], ht⟩) (fun _ h => by cases h) dz_B_wantsCode_19
set_option maxHeartbeats 4000000 in
set_option maxRecDepth 100000 in
theorem ct_B_isOpenOrForced (l : Launch) (dC : Nat → ClassId) (dI : Nat → Nat → Nat) (cq ci : ClassId) (h0 : Nat) (b : zb_T) : Met l yz_B_isOpenOrForced wz_B_isOpenOrForced (zw_room 0 0 0) (zw_R zw_ns (dC, dI) vwCl (zl_tys cq ci) [.ref h0] (zb_W h0 b)) (vp_Si (fun r => r = zb_isOpen b)) 0 0 (fun _ => False) := by
  refine Met.ofW (cc := cz_B_isOpenOrForced) (maxL := 1) (ret := (some .boolean)) (by decide) rfl ?_
  intro p e s m args below meth c s₁ B hml hv
  obtain ⟨rfl, hP, hK, hN⟩ := hv
  have hx := B.exec
  have hb := B.bytes
  have hr := B.returns
  have hts := atoms_spec (ws := wz_B_isOpenOrForced) B.pre
  have hz : ∀ w ∈ zw_T, w.before ([.ref h0] : List Value).toArray s = true := fun w h => hts w (List.mem_cons_of_mem _ h)
  have hown : s.vm.findClass RzB = some m.cls := findClass_of_methodNamed B.named
  have hlocks := B.notSynchronized
  have hl := lv_entry ([.ref h0]) (n := 1) (Nat.le_of_ble_eq_true rfl)
  rw [lg_entry_eq]
  generalize (lg_sl ([.ref h0]) ++ List.replicate (1 - (lg_sl ([.ref h0])).length) Slot.unset).toArray = ls at hl ⊢
  have hl : lv_has ls 1 [(0, .ref h0)] := hl
  refine lv_aload_n hx hb dz_B_isOpenOrForced_0 rfl (lv_at hl 0 rfl) ?_
  refine va_get (D := (dC, dI)) (ci := 0) (v := .int (zb_Dr b)) (C := RzB) (T := TzB) (N := 9) hx hb hz inzB hown hK hP 0 rfl rfl 1 (by decide) (hz _ zi_87) (fun _ h9 => h9) rfl dz_B_isOpenOrForced_1 ?_
  refine lv_iconst (v := 1) hx hb dz_B_isOpenOrForced_4 (by decide) ?_
  refine lv_icmp_eq (tgt := 16) hx hb dz_B_isOpenOrForced_5 (by decide) (fun c_1 => ?_) (fun c_1 => ?_)
  · refine lv_iconst (v := 1) hx hb dz_B_isOpenOrForced_16 (by decide) ?_
    refine lv_goto (tgt := 21) hx hb dz_B_isOpenOrForced_17 (by decide) ?_
    exact W.zret (v := 1) (ty := .boolean) hx hb hr rfl (fun t ht hW => ⟨_, rfl, by simp only [zb_isOpen, if_pos c_1], ht⟩) (fun _ h => by cases h) dz_B_isOpenOrForced_21
  · refine lv_aload_n hx hb dz_B_isOpenOrForced_8 rfl (lv_at hl 0 rfl) ?_
    refine va_get (D := (dC, dI)) (ci := 0) (v := .int (zb_Dr b)) (C := RzB) (T := TzB) (N := 9) hx hb hz inzB hown hK hP 0 rfl rfl 1 (by decide) (hz _ zi_87) (fun _ h9 => h9) rfl dz_B_isOpenOrForced_9 ?_
    refine lv_iconst (v := 2) hx hb dz_B_isOpenOrForced_12 (by decide) ?_
    refine lv_icmp_ne (tgt := 20) hx hb dz_B_isOpenOrForced_13 (by decide) (fun c_2 => ?_) (fun c_2 => ?_)
    · refine lv_iconst (v := 0) hx hb dz_B_isOpenOrForced_20 (by decide) ?_
      exact W.zret (v := 0) (ty := .boolean) hx hb hr rfl (fun t ht hW => ⟨_, rfl, by simp only [zb_isOpen, if_neg c_1, if_neg c_2], ht⟩) (fun _ h => by cases h) dz_B_isOpenOrForced_21
    · refine lv_iconst (v := 1) hx hb dz_B_isOpenOrForced_16 (by decide) ?_
      refine lv_goto (tgt := 21) hx hb dz_B_isOpenOrForced_17 (by decide) ?_
      exact W.zret (v := 1) (ty := .boolean) hx hb hr rfl (fun t ht hW => ⟨_, rfl, by simp only [zb_isOpen, if_neg c_1, if_pos c_2], ht⟩) (fun _ h => by cases h) dz_B_isOpenOrForced_21
set_option maxHeartbeats 4000000 in
set_option maxRecDepth 100000 in
theorem ct_B_isUnused (l : Launch) (dC : Nat → ClassId) (dI : Nat → Nat → Nat) (cq ci : ClassId) (h0 : Nat) (b : zb_T) : Met l yz_B_isUnused wz_B_isUnused (zw_room 1 0 0) (zw_R zw_ns (dC, dI) vwCl (zl_tys cq ci) [.ref h0] (zb_W h0 b)) (vp_Si (fun r => r = zb_isUnused b)) 0 0 (fun _ => False) := by
  refine Met.ofW (cc := cz_B_isUnused) (maxL := 1) (ret := (some .boolean)) (by decide) rfl ?_
  intro p e s m args below meth c s₁ B hml hv
  obtain ⟨rfl, hP, hK, hN⟩ := hv
  have hx := B.exec
  have hb := B.bytes
  have hr := B.returns
  have hts := atoms_spec (ws := wz_B_isUnused) B.pre
  have hz : ∀ w ∈ zw_T, w.before ([.ref h0] : List Value).toArray s = true := fun w h => hts w (List.mem_cons_of_mem _ h)
  have hown : s.vm.findClass RzB = some m.cls := findClass_of_methodNamed B.named
  have hlocks := B.notSynchronized
  have hl := lv_entry ([.ref h0]) (n := 1) (Nat.le_of_ble_eq_true rfl)
  rw [lg_entry_eq]
  generalize (lg_sl ([.ref h0]) ++ List.replicate (1 - (lg_sl ([.ref h0])).length) Slot.unset).toArray = ls at hl ⊢
  have hl : lv_has ls 1 [(0, .ref h0)] := hl
  refine lv_aload_n hx hb dz_B_isUnused_0 rfl (lv_at hl 0 rfl) ?_
  refine va_get (D := (dC, dI)) (ci := 0) (v := .int (zb_Dr b)) (C := RzB) (T := TzB) (N := 9) hx hb hz inzB hown hK hP 0 rfl rfl 1 (by decide) (hz _ zi_87) (fun _ h9 => h9) rfl dz_B_isUnused_1 ?_
  refine lv_if_ne (tgt := 27) hx hb dz_B_isUnused_4 (by decide) (fun c_1 => ?_) (fun c_1 => ?_)
  · refine lv_iconst (v := 0) hx hb dz_B_isUnused_27 (by decide) ?_
    exact W.zret (v := 0) (ty := .boolean) hx hb hr rfl (fun t ht hW => ⟨_, rfl, by simp only [zb_isUnused, if_neg c_1], ht⟩) (fun _ h => by cases h) dz_B_isUnused_28
  · refine lv_aload_n hx hb dz_B_isUnused_7 rfl (lv_at hl 0 rfl) ?_
    refine vp_callSi (va_Run.run (va_runV (As := []) (rest := []) ⟨hx, hb, hml, hown, hz⟩ (ct_B_isEmpty l dC dI cq ci h0 b) (cwV 0 hz (zw_gV zi_129 zi_130 zi_5 zi_36 zi_131) rfl rfl rfl (by decide +kernel) ⟨Nat.le_of_ble_eq_true rfl, Nat.le_of_ble_eq_true rfl⟩) (zw_preRV zw_ns_ok hP hK hN (ci := 0) rfl (k := 0) rfl) rfl rfl hl.1 rfl (lv_room (Nat.le_of_ble_eq_true rfl)) dz_B_isUnused_8 ⟨Nat.le_of_ble_eq_true rfl, Nat.le_of_ble_eq_true rfl⟩)) (fun r_2 hr_2 => ?_)
    have hr_2 : r_2 = zb_isEmpty b := hr_2
    subst hr_2
    refine lv_if_eq (tgt := 27) hx hb dz_B_isUnused_11 (by decide) (fun c_3 => ?_) (fun c_3 => ?_)
    · refine lv_iconst (v := 0) hx hb dz_B_isUnused_27 (by decide) ?_
      exact W.zret (v := 0) (ty := .boolean) hx hb hr rfl (fun t ht hW => ⟨_, rfl, by simp only [zb_isUnused, if_pos c_1, if_pos c_3], ht⟩) (fun _ h => by cases h) dz_B_isUnused_28
    · refine lv_aload_n hx hb dz_B_isUnused_14 rfl (lv_at hl 0 rfl) ?_
      refine va_get (D := (dC, dI)) (ci := 0) (v := .long (zb_Ke b)) (C := RzB) (T := TzB) (N := 9) hx hb hz inzB hown hK hP 0 rfl rfl 8 (by decide) (hz _ zi_94) (fun _ h9 => h9) rfl dz_B_isUnused_15 ?_
      refine lv_lconst (v := 0) hx hb dz_B_isUnused_18 (by decide) ?_
      refine W.lcmp hx hb dz_B_isUnused_19 ?_
      refine lv_if_ne (tgt := 27) hx hb dz_B_isUnused_20 (by decide) (fun c_4 => ?_) (fun c_4 => ?_)
      · refine lv_iconst (v := 0) hx hb dz_B_isUnused_27 (by decide) ?_
        exact W.zret (v := 0) (ty := .boolean) hx hb hr rfl (fun t ht hW => ⟨_, rfl, by simp only [zb_isUnused, if_pos c_1, if_neg c_3, if_neg c_4], ht⟩) (fun _ h => by cases h) dz_B_isUnused_28
      · refine lv_iconst (v := 1) hx hb dz_B_isUnused_23 (by decide) ?_
        refine lv_goto (tgt := 28) hx hb dz_B_isUnused_24 (by decide) ?_
        exact W.zret (v := 1) (ty := .boolean) hx hb hr rfl (fun t ht hW => ⟨_, rfl, by simp only [zb_isUnused, if_pos c_1, if_neg c_3, if_pos c_4], ht⟩) (fun _ h => by cases h) dz_B_isUnused_28
set_option maxHeartbeats 4000000 in
set_option maxRecDepth 100000 in
theorem ct_B_admits (l : Launch) (dC : Nat → ClassId) (dI : Nat → Nat → Nat) (cq ci : ClassId) (h0 : Nat) (b : zb_T) (p1 : Int32) : Met l yz_B_admits wz_B_admits (zw_room 2 0 0) (zw_R zw_ns (dC, dI) vwCl (zl_tys cq ci) [.ref h0, .int p1] (zb_W h0 b)) (vp_Si (fun r => r = zb_admits b p1)) 0 0 (fun _ => False) := by
  refine Met.ofW (cc := cz_B_admits) (maxL := 2) (ret := (some .boolean)) (by decide) rfl ?_
  intro p e s m args below meth c s₁ B hml hv
  obtain ⟨rfl, hP, hK, hN⟩ := hv
  have hx := B.exec
  have hb := B.bytes
  have hr := B.returns
  have hts := atoms_spec (ws := wz_B_admits) B.pre
  have hz : ∀ w ∈ zw_T, w.before ([.ref h0, .int p1] : List Value).toArray s = true := fun w h => hts w (List.mem_cons_of_mem _ h)
  have hown : s.vm.findClass RzB = some m.cls := findClass_of_methodNamed B.named
  have hlocks := B.notSynchronized
  have hl := lv_entry ([.ref h0, .int p1]) (n := 2) (Nat.le_of_ble_eq_true rfl)
  rw [lg_entry_eq]
  generalize (lg_sl ([.ref h0, .int p1]) ++ List.replicate (2 - (lg_sl ([.ref h0, .int p1])).length) Slot.unset).toArray = ls at hl ⊢
  have hl : lv_has ls 2 [(0, .ref h0), (1, .int p1)] := hl
  refine lv_iload_n hx hb dz_B_admits_0 rfl (lv_at hl 1 rfl) ?_
  by_cases c_1 : p1 = 0
  · refine lv_tableIn (tgt := 36) hx hb dz_B_admits_1 (by rw [c_1]; decide) (by rw [c_1]; decide) (by rw [c_1]; rfl) (by decide) ?_
    refine lv_aload_n hx hb dz_B_admits_36 rfl (lv_at hl 0 rfl) ?_
    refine va_get (D := (dC, dI)) (ci := 0) (v := .int (zb_Dr b)) (C := RzB) (T := TzB) (N := 9) hx hb hz inzB hown hK hP 0 rfl rfl 1 (by decide) (hz _ zi_87) (fun _ h9 => h9) rfl dz_B_admits_37 ?_
    refine lv_if_ne (tgt := 47) hx hb dz_B_admits_40 (by decide) (fun c_2 => ?_) (fun c_2 => ?_)
    · refine lv_iconst (v := 0) hx hb dz_B_admits_47 (by decide) ?_
      exact W.zret (v := 0) (ty := .boolean) hx hb hr rfl (fun t ht hW => ⟨_, rfl, by simp only [zb_admits, if_pos c_1, if_neg c_2], ht⟩) (fun _ h => by cases h) dz_B_admits_48
    · refine lv_iconst (v := 1) hx hb dz_B_admits_43 (by decide) ?_
      refine lv_goto (tgt := 48) hx hb dz_B_admits_44 (by decide) ?_
      exact W.zret (v := 1) (ty := .boolean) hx hb hr rfl (fun t ht hW => ⟨_, rfl, by simp only [zb_admits, if_pos c_1, if_pos c_2], ht⟩) (fun _ h => by cases h) dz_B_admits_48
  · by_cases c_3 : p1 = 1
    · refine lv_tableIn (tgt := 49) hx hb dz_B_admits_1 (by rw [c_3]; decide) (by rw [c_3]; decide) (by rw [c_3]; rfl) (by decide) ?_
      refine lv_aload_n hx hb dz_B_admits_49 rfl (lv_at hl 0 rfl) ?_
      refine va_get (D := (dC, dI)) (ci := 0) (v := .int (zb_Dr b)) (C := RzB) (T := TzB) (N := 9) hx hb hz inzB hown hK hP 0 rfl rfl 1 (by decide) (hz _ zi_87) (fun _ h9 => h9) rfl dz_B_admits_50 ?_
      refine lv_if_eq (tgt := 64) hx hb dz_B_admits_53 (by decide) (fun c_4 => ?_) (fun c_4 => ?_)
      · refine lv_iconst (v := 1) hx hb dz_B_admits_64 (by decide) ?_
        refine lv_goto (tgt := 69) hx hb dz_B_admits_65 (by decide) ?_
        exact W.zret (v := 1) (ty := .boolean) hx hb hr rfl (fun t ht hW => ⟨_, rfl, by simp only [zb_admits, if_neg c_1, if_pos c_3, if_pos c_4], ht⟩) (fun _ h => by cases h) dz_B_admits_69
      · refine lv_aload_n hx hb dz_B_admits_56 rfl (lv_at hl 0 rfl) ?_
        refine va_get (D := (dC, dI)) (ci := 0) (v := .int (zb_Dr b)) (C := RzB) (T := TzB) (N := 9) hx hb hz inzB hown hK hP 0 rfl rfl 1 (by decide) (hz _ zi_87) (fun _ h9 => h9) rfl dz_B_admits_57 ?_
        refine lv_iconst (v := 1) hx hb dz_B_admits_60 (by decide) ?_
        refine lv_icmp_ne (tgt := 68) hx hb dz_B_admits_61 (by decide) (fun c_5 => ?_) (fun c_5 => ?_)
        · refine lv_iconst (v := 0) hx hb dz_B_admits_68 (by decide) ?_
          exact W.zret (v := 0) (ty := .boolean) hx hb hr rfl (fun t ht hW => ⟨_, rfl, by simp only [zb_admits, if_neg c_1, if_pos c_3, if_neg c_4, if_neg c_5], ht⟩) (fun _ h => by cases h) dz_B_admits_69
        · refine lv_iconst (v := 1) hx hb dz_B_admits_64 (by decide) ?_
          refine lv_goto (tgt := 69) hx hb dz_B_admits_65 (by decide) ?_
          exact W.zret (v := 1) (ty := .boolean) hx hb hr rfl (fun t ht hW => ⟨_, rfl, by simp only [zb_admits, if_neg c_1, if_pos c_3, if_neg c_4, if_pos c_5], ht⟩) (fun _ h => by cases h) dz_B_admits_69
    · by_cases c_6 : p1 = 2
      · refine lv_tableIn (tgt := 70) hx hb dz_B_admits_1 (by rw [c_6]; decide) (by rw [c_6]; decide) (by rw [c_6]; rfl) (by decide) ?_
        refine lv_aload_n hx hb dz_B_admits_70 rfl (lv_at hl 0 rfl) ?_
        refine va_get (D := (dC, dI)) (ci := 0) (v := .int (zb_Dr b)) (C := RzB) (T := TzB) (N := 9) hx hb hz inzB hown hK hP 0 rfl rfl 1 (by decide) (hz _ zi_87) (fun _ h9 => h9) rfl dz_B_admits_71 ?_
        refine lv_iconst (v := 2) hx hb dz_B_admits_74 (by decide) ?_
        refine lv_icmp_ne (tgt := 82) hx hb dz_B_admits_75 (by decide) (fun c_7 => ?_) (fun c_7 => ?_)
        · refine lv_iconst (v := 0) hx hb dz_B_admits_82 (by decide) ?_
          exact W.zret (v := 0) (ty := .boolean) hx hb hr rfl (fun t ht hW => ⟨_, rfl, by simp only [zb_admits, if_neg c_1, if_neg c_3, if_pos c_6, if_neg c_7], ht⟩) (fun _ h => by cases h) dz_B_admits_83
        · refine lv_iconst (v := 1) hx hb dz_B_admits_78 (by decide) ?_
          refine lv_goto (tgt := 83) hx hb dz_B_admits_79 (by decide) ?_
          exact W.zret (v := 1) (ty := .boolean) hx hb hr rfl (fun t ht hW => ⟨_, rfl, by simp only [zb_admits, if_neg c_1, if_neg c_3, if_pos c_6, if_pos c_7], ht⟩) (fun _ h => by cases h) dz_B_admits_83
      · by_cases c_8 : p1 = 3
        · refine lv_tableIn (tgt := 84) hx hb dz_B_admits_1 (by rw [c_8]; decide) (by rw [c_8]; decide) (by rw [c_8]; rfl) (by decide) ?_
          refine lv_aload_n hx hb dz_B_admits_84 rfl (lv_at hl 0 rfl) ?_
          refine vp_callSi (va_Run.run (va_runV (As := []) (rest := []) ⟨hx, hb, hml, hown, hz⟩ (ct_B_isUnused l dC dI cq ci h0 b) (cwV 0 hz (zw_gV zi_210 zi_127 zi_4 zi_36 zi_128) rfl rfl rfl (by decide +kernel) ⟨Nat.le_of_ble_eq_true rfl, Nat.le_of_ble_eq_true rfl⟩) (zw_preRV zw_ns_ok hP hK hN (ci := 0) rfl (k := 0) rfl) rfl rfl hl.1 rfl (lv_room (Nat.le_of_ble_eq_true rfl)) dz_B_admits_85 ⟨Nat.le_of_ble_eq_true rfl, Nat.le_of_ble_eq_true rfl⟩)) (fun r_9 hr_9 => ?_)
          have hr_9 : r_9 = zb_isUnused b := hr_9
          subst hr_9
          exact W.zret (v := zb_isUnused b) (ty := .boolean) hx hb hr (zb_isUnused_nar b) (fun t ht hW => ⟨_, rfl, by simp only [zb_admits, if_neg c_1, if_neg c_3, if_neg c_6, if_pos c_8], ht⟩) (fun _ h => by cases h) dz_B_admits_88
        · by_cases c_10 : p1 = 4
          · refine lv_tableIn (tgt := 89) hx hb dz_B_admits_1 (by rw [c_10]; decide) (by rw [c_10]; decide) (by rw [c_10]; rfl) (by decide) ?_
            refine lv_aload_n hx hb dz_B_admits_89 rfl (lv_at hl 0 rfl) ?_
            refine va_get (D := (dC, dI)) (ci := 0) (v := .int (zb_Dr b)) (C := RzB) (T := TzB) (N := 9) hx hb hz inzB hown hK hP 0 rfl rfl 1 (by decide) (hz _ zi_87) (fun _ h9 => h9) rfl dz_B_admits_90 ?_
            refine lv_iconst (v := 3) hx hb dz_B_admits_93 (by decide) ?_
            refine lv_icmp_ne (tgt := 101) hx hb dz_B_admits_94 (by decide) (fun c_11 => ?_) (fun c_11 => ?_)
            · refine lv_iconst (v := 0) hx hb dz_B_admits_101 (by decide) ?_
              exact W.zret (v := 0) (ty := .boolean) hx hb hr rfl (fun t ht hW => ⟨_, rfl, by simp only [zb_admits, if_neg c_1, if_neg c_3, if_neg c_6, if_neg c_8, if_pos c_10, if_neg c_11], ht⟩) (fun _ h => by cases h) dz_B_admits_102
            · refine lv_iconst (v := 1) hx hb dz_B_admits_97 (by decide) ?_
              refine lv_goto (tgt := 102) hx hb dz_B_admits_98 (by decide) ?_
              exact W.zret (v := 1) (ty := .boolean) hx hb hr rfl (fun t ht hW => ⟨_, rfl, by simp only [zb_admits, if_neg c_1, if_neg c_3, if_neg c_6, if_neg c_8, if_pos c_10, if_pos c_11], ht⟩) (fun _ h => by cases h) dz_B_admits_102
          · have o_12 : p1.toInt < 0 ∨ 4 < p1.toInt := by
              have e0 := lv_neT c_1 (a := 0) rfl
              have e1 := lv_neT c_3 (a := 1) rfl
              have e2 := lv_neT c_6 (a := 2) rfl
              have e3 := lv_neT c_8 (a := 3) rfl
              have e4 := lv_neT c_10 (a := 4) rfl
              omega
            refine lv_tableOut (tgt := 103) hx hb dz_B_admits_1 o_12 (by decide) ?_
            refine lv_iconst (v := 0) hx hb dz_B_admits_103 (by decide) ?_
            exact W.zret (v := 0) (ty := .boolean) hx hb hr rfl (fun t ht hW => ⟨_, rfl, by simp only [zb_admits, if_neg c_1, if_neg c_3, if_neg c_6, if_neg c_8, if_neg c_10], ht⟩) (fun _ h => by cases h) dz_B_admits_104
set_option maxHeartbeats 4000000 in
set_option maxRecDepth 100000 in
theorem ct_B_beginOpening (l : Launch) (dC : Nat → ClassId) (dI : Nat → Nat → Nat) (cq ci : ClassId) (h0 : Nat) (b : zb_T) (sz : Nat) (p1 : Int32) (p2 : Int64) : Met l yz_B_beginOpening wz_B_beginOpening (zw_room 0 0 0) (zw_U zw_ns (dC, dI) vwCl (zl_tys cq ci) [.ref h0, .int p1, .long p2] (zb_W h0 b) sz) (va_Qv (fun _ : Unit => True) (fun (_ : Unit) (t : State) => va_P (dC, dI) vwCl (zb_W h0 (zb_begin b p1 p2)) t.heap) (va_A (zb_W h0 b) sz)) 0 0 (va_A (zb_W h0 b) sz) := by
  refine Met.ofW (cc := cz_B_beginOpening) (maxL := 4) (ret := none) (by decide) rfl ?_
  intro p e s m args below meth c s₁ B hml hv
  obtain ⟨rfl, hsz, hP, hK, hD0, hN⟩ := hv
  have hx := B.exec
  have hb := B.bytes
  have hr := B.returns
  have hts := atoms_spec (ws := wz_B_beginOpening) B.pre
  have hz : ∀ w ∈ zw_T, w.before ([.ref h0, .int p1, .long p2] : List Value).toArray s = true := fun w h => hts w (List.mem_cons_of_mem _ h)
  have hown : s.vm.findClass RzB = some m.cls := findClass_of_methodNamed B.named
  have hlocks := B.notSynchronized
  subst hsz
  have hD := hD0.self (sz := s.heap.size)
  generalize hAe : va_A (zb_W h0 b) s.heap.size = A at hD ⊢
  have hA : ∀ q : Nat, s.heap.size ≤ q → A q := fun q h => by rw [← hAe]; exact Or.inr h
  have hS : va_S A s.heap s.heap [] := va_S.rf
  have hl := lv_entry ([.ref h0, .int p1, .long p2]) (n := 4) (Nat.le_of_ble_eq_true rfl)
  rw [lg_entry_eq]
  generalize (lg_sl ([.ref h0, .int p1, .long p2]) ++ List.replicate (4 - (lg_sl ([.ref h0, .int p1, .long p2])).length) Slot.unset).toArray = ls at hl ⊢
  have hl : lv_has ls 4 [(0, .ref h0), (1, .int p1), (2, .long p2)] := hl
  refine lv_aload_n hx hb dz_B_beginOpening_0 rfl (lv_at hl 0 rfl) ?_
  refine lv_iload_n hx hb dz_B_beginOpening_1 rfl (lv_at hl 1 rfl) ?_
  refine va_put (D := (dC, dI)) (ci := 0) (v := .int p1) (ty := .int) (C := RzB) (T := TzB) (N := 9) hx hb hz inzB tyzB tyzB_ok nmzB hown hK hP hD hS 0 rfl rfl 1 (by decide) (hz _ zi_87) (fun _ h9 => h9) rfl (by decide +kernel) rfl rfl (Nat.le_of_ble_eq_true rfl) dz_B_beginOpening_2 (fun H locs hP hD hS => ?_)
  obtain ⟨S_1, eS_1⟩ : ∃ z, z = zb_sDr b p1 := ⟨_, rfl⟩
  have hP : va_P (dC, dI) vwCl (zb_W h0 S_1) H := by rw [eS_1]; exact hP
  have hD : va_D A (zb_W h0 S_1) := by rw [eS_1]; exact hD
  refine lv_aload_n hx hb dz_B_beginOpening_5 rfl (lv_at hl 0 rfl) ?_
  refine lv_lload_n hx hb dz_B_beginOpening_6 rfl (lv_at hl 2 rfl) ?_
  refine va_put (D := (dC, dI)) (ci := 0) (v := .long p2) (ty := .long) (C := RzB) (T := TzB) (N := 9) hx hb hz inzB tyzB tyzB_ok nmzB hown hK hP hD hS 0 rfl rfl 2 (by decide) (hz _ zi_88) (fun _ h9 => h9) rfl (by decide +kernel) rfl rfl (Nat.le_of_ble_eq_true rfl) dz_B_beginOpening_7 (fun H locs hP hD hS => ?_)
  obtain ⟨S_2, eS_2⟩ : ∃ z, z = zb_sOs S_1 p2 := ⟨_, rfl⟩
  have hP : va_P (dC, dI) vwCl (zb_W h0 S_2) H := by rw [eS_2]; exact hP
  have hD : va_D A (zb_W h0 S_2) := by rw [eS_2]; exact hD
  refine lv_aload_n hx hb dz_B_beginOpening_10 rfl (lv_at hl 0 rfl) ?_
  refine lv_iconst (v := 0) hx hb dz_B_beginOpening_11 (by decide) ?_
  refine va_put (D := (dC, dI)) (ci := 0) (v := .int 0) (ty := .boolean) (C := RzB) (T := TzB) (N := 9) hx hb hz inzB tyzB tyzB_ok nmzB hown hK hP hD hS 0 rfl rfl 3 (by decide) (hz _ zi_89) (fun _ h9 => h9) rfl (by decide +kernel) rfl rfl (Nat.le_of_ble_eq_true rfl) dz_B_beginOpening_12 (fun H locs hP hD hS => ?_)
  obtain ⟨S_3, eS_3⟩ : ∃ z, z = zb_sTo S_2 0 := ⟨_, rfl⟩
  have hP : va_P (dC, dI) vwCl (zb_W h0 S_3) H := by rw [eS_3]; exact hP
  have hD : va_D A (zb_W h0 S_3) := by rw [eS_3]; exact hD
  subst eS_1 eS_2 eS_3
  have hE_4 : zb_begin b p1 p2 = zb_sTo (zb_sOs (zb_sDr b p1) p2) 0 := by simp only [zb_begin]
  exact W.vret hx hb hr (fun t ht hW => ⟨⟨(), rfl, trivial, by show va_P (dC, dI) vwCl (zb_W h0 (zb_begin b p1 p2)) t.heap; rw [ht, hE_4]; exact hP⟩, hS.F ht⟩) hS.2.2 dz_B_beginOpening_15
set_option maxHeartbeats 4000000 in
set_option maxRecDepth 100000 in
theorem ct_B_undergo (l : Launch) (dC : Nat → ClassId) (dI : Nat → Nat → Nat) (cq ci : ClassId) (h0 : Nat) (b : zb_T) (sz : Nat) (p1 : Int32) (p2 : Int64) : Met l yz_B_undergo wz_B_undergo (zw_room 1 0 0) (zw_U zw_ns (dC, dI) vwCl (zl_tys cq ci) [.ref h0, .int p1, .long p2] (zb_W h0 b) sz) (va_Qv (fun _ : Unit => True) (fun (_ : Unit) (t : State) => va_P (dC, dI) vwCl (zb_W h0 (zb_undergo b p1 p2)) t.heap) (va_A (zb_W h0 b) sz)) 0 0 (va_A (zb_W h0 b) sz) := by
  refine Met.ofW (cc := cz_B_undergo) (maxL := 4) (ret := none) (by decide) rfl ?_
  intro p e s m args below meth c s₁ B hml hv
  obtain ⟨rfl, hsz, hP, hK, hD0, hN⟩ := hv
  have hx := B.exec
  have hb := B.bytes
  have hr := B.returns
  have hts := atoms_spec (ws := wz_B_undergo) B.pre
  have hz : ∀ w ∈ zw_T, w.before ([.ref h0, .int p1, .long p2] : List Value).toArray s = true := fun w h => hts w (List.mem_cons_of_mem _ h)
  have hown : s.vm.findClass RzB = some m.cls := findClass_of_methodNamed B.named
  have hlocks := B.notSynchronized
  subst hsz
  have hD := hD0.self (sz := s.heap.size)
  generalize hAe : va_A (zb_W h0 b) s.heap.size = A at hD ⊢
  have hA : ∀ q : Nat, s.heap.size ≤ q → A q := fun q h => by rw [← hAe]; exact Or.inr h
  have hS : va_S A s.heap s.heap [] := va_S.rf
  have hl := lv_entry ([.ref h0, .int p1, .long p2]) (n := 4) (Nat.le_of_ble_eq_true rfl)
  rw [lg_entry_eq]
  generalize (lg_sl ([.ref h0, .int p1, .long p2]) ++ List.replicate (4 - (lg_sl ([.ref h0, .int p1, .long p2])).length) Slot.unset).toArray = ls at hl ⊢
  have hl : lv_has ls 4 [(0, .ref h0), (1, .int p1), (2, .long p2)] := hl
  refine lv_iload_n hx hb dz_B_undergo_0 rfl (lv_at hl 1 rfl) ?_
  by_cases c_1 : p1 = 0
  · refine lv_tableIn (tgt := 32) hx hb dz_B_undergo_1 (by rw [c_1]; decide) (by rw [c_1]; decide) (by rw [c_1]; rfl) (by decide) ?_
    refine lv_aload_n hx hb dz_B_undergo_32 rfl (lv_at hl 0 rfl) ?_
    refine lv_iconst (v := 1) hx hb dz_B_undergo_33 (by decide) ?_
    refine lv_lload_n hx hb dz_B_undergo_34 rfl (lv_at hl 2 rfl) ?_
    have hFc := zw_free hS hA hD
    refine va_callv (va_runV (As := [.int 1, .long p2]) (rest := []) ⟨hx, hb, hml, hown, hz⟩ (ct_B_beginOpening l dC dI cq ci h0 b s.heap.size 1 p2) (cwV 2 hz (zw_gV zi_213 zi_196 zi_23 zi_36 zi_197) rfl rfl rfl (by decide +kernel) ⟨Nat.le_of_ble_eq_true rfl, Nat.le_of_ble_eq_true rfl⟩) (zw_preUV zw_ns_ok hP hD hK hN (ci := 0) rfl (k := 0) rfl) rfl rfl hl.1 rfl (lv_room (Nat.le_of_ble_eq_true rfl)) dz_B_undergo_35 ⟨Nat.le_of_ble_eq_true rfl, Nat.le_of_ble_eq_true rfl⟩) hS (fun q _ h => hFc q h) hFc (fun u_2 t_2 H locs ht hvm hw hB hz1 hk1 hS => ?_)
    have hP : va_P (dC, dI) vwCl (zb_W h0 (zb_begin b 1 p2)) t_2.heap := hB
    rw [ht] at hP
    have hD : va_D A (zb_W h0 (zb_begin b 1 p2)) := zb_D hD
    obtain ⟨S_3, eS_3⟩ : ∃ z, z = (zb_begin b 1 p2) := ⟨_, rfl⟩
    rw [← eS_3] at hP hD
    refine lv_goto (tgt := 63) hx hb dz_B_undergo_38 (by decide) ?_
    subst eS_3
    have hE_4 : zb_undergo b p1 p2 = zb_begin b 1 p2 := by simp only [zb_undergo, if_pos c_1]
    exact W.vret hx hb hr (fun t ht hW => ⟨⟨(), rfl, trivial, by show va_P (dC, dI) vwCl (zb_W h0 (zb_undergo b p1 p2)) t.heap; rw [ht, hE_4]; exact hP⟩, hS.F ht⟩) hS.2.2 dz_B_undergo_63
  · by_cases c_5 : p1 = 1
    · refine lv_tableIn (tgt := 41) hx hb dz_B_undergo_1 (by rw [c_5]; decide) (by rw [c_5]; decide) (by rw [c_5]; rfl) (by decide) ?_
      refine lv_aload_n hx hb dz_B_undergo_41 rfl (lv_at hl 0 rfl) ?_
      refine lv_iconst (v := 2) hx hb dz_B_undergo_42 (by decide) ?_
      refine lv_lload_n hx hb dz_B_undergo_43 rfl (lv_at hl 2 rfl) ?_
      have hFc := zw_free hS hA hD
      refine va_callv (va_runV (As := [.int 2, .long p2]) (rest := []) ⟨hx, hb, hml, hown, hz⟩ (ct_B_beginOpening l dC dI cq ci h0 b s.heap.size 2 p2) (cwV 2 hz (zw_gV zi_213 zi_196 zi_23 zi_36 zi_197) rfl rfl rfl (by decide +kernel) ⟨Nat.le_of_ble_eq_true rfl, Nat.le_of_ble_eq_true rfl⟩) (zw_preUV zw_ns_ok hP hD hK hN (ci := 0) rfl (k := 0) rfl) rfl rfl hl.1 rfl (lv_room (Nat.le_of_ble_eq_true rfl)) dz_B_undergo_44 ⟨Nat.le_of_ble_eq_true rfl, Nat.le_of_ble_eq_true rfl⟩) hS (fun q _ h => hFc q h) hFc (fun u_6 t_6 H locs ht hvm hw hB hz1 hk1 hS => ?_)
      have hP : va_P (dC, dI) vwCl (zb_W h0 (zb_begin b 2 p2)) t_6.heap := hB
      rw [ht] at hP
      have hD : va_D A (zb_W h0 (zb_begin b 2 p2)) := zb_D hD
      obtain ⟨S_7, eS_7⟩ : ∃ z, z = (zb_begin b 2 p2) := ⟨_, rfl⟩
      rw [← eS_7] at hP hD
      refine lv_goto (tgt := 63) hx hb dz_B_undergo_47 (by decide) ?_
      subst eS_7
      have hE_8 : zb_undergo b p1 p2 = zb_begin b 2 p2 := by simp only [zb_undergo, if_neg c_1, if_pos c_5]
      exact W.vret hx hb hr (fun t ht hW => ⟨⟨(), rfl, trivial, by show va_P (dC, dI) vwCl (zb_W h0 (zb_undergo b p1 p2)) t.heap; rw [ht, hE_8]; exact hP⟩, hS.F ht⟩) hS.2.2 dz_B_undergo_63
    · by_cases c_9 : p1 = 2
      · refine lv_tableIn (tgt := 58) hx hb dz_B_undergo_1 (by rw [c_9]; decide) (by rw [c_9]; decide) (by rw [c_9]; rfl) (by decide) ?_
        refine lv_aload_n hx hb dz_B_undergo_58 rfl (lv_at hl 0 rfl) ?_
        refine lv_iconst (v := 0) hx hb dz_B_undergo_59 (by decide) ?_
        refine va_put (D := (dC, dI)) (ci := 0) (v := .int 0) (ty := .int) (C := RzB) (T := TzB) (N := 9) hx hb hz inzB tyzB tyzB_ok nmzB hown hK hP hD hS 0 rfl rfl 1 (by decide) (hz _ zi_87) (fun _ h9 => h9) rfl (by decide +kernel) rfl rfl (Nat.le_of_ble_eq_true rfl) dz_B_undergo_60 (fun H locs hP hD hS => ?_)
        obtain ⟨S_10, eS_10⟩ : ∃ z, z = zb_sDr b 0 := ⟨_, rfl⟩
        have hP : va_P (dC, dI) vwCl (zb_W h0 S_10) H := by rw [eS_10]; exact hP
        have hD : va_D A (zb_W h0 S_10) := by rw [eS_10]; exact hD
        subst eS_10
        have hE_11 : zb_undergo b p1 p2 = zb_sDr b 0 := by simp only [zb_undergo, if_neg c_1, if_neg c_5, if_pos c_9]
        exact W.vret hx hb hr (fun t ht hW => ⟨⟨(), rfl, trivial, by show va_P (dC, dI) vwCl (zb_W h0 (zb_undergo b p1 p2)) t.heap; rw [ht, hE_11]; exact hP⟩, hS.F ht⟩) hS.2.2 dz_B_undergo_63
      · by_cases c_12 : p1 = 3
        · refine lv_tableIn (tgt := 50) hx hb dz_B_undergo_1 (by rw [c_12]; decide) (by rw [c_12]; decide) (by rw [c_12]; rfl) (by decide) ?_
          refine lv_aload_n hx hb dz_B_undergo_50 rfl (lv_at hl 0 rfl) ?_
          refine lv_iconst (v := 3) hx hb dz_B_undergo_51 (by decide) ?_
          refine va_put (D := (dC, dI)) (ci := 0) (v := .int 3) (ty := .int) (C := RzB) (T := TzB) (N := 9) hx hb hz inzB tyzB tyzB_ok nmzB hown hK hP hD hS 0 rfl rfl 1 (by decide) (hz _ zi_87) (fun _ h9 => h9) rfl (by decide +kernel) rfl rfl (Nat.le_of_ble_eq_true rfl) dz_B_undergo_52 (fun H locs hP hD hS => ?_)
          obtain ⟨S_13, eS_13⟩ : ∃ z, z = zb_sDr b 3 := ⟨_, rfl⟩
          have hP : va_P (dC, dI) vwCl (zb_W h0 S_13) H := by rw [eS_13]; exact hP
          have hD : va_D A (zb_W h0 S_13) := by rw [eS_13]; exact hD
          refine lv_goto (tgt := 63) hx hb dz_B_undergo_55 (by decide) ?_
          subst eS_13
          have hE_14 : zb_undergo b p1 p2 = zb_sDr b 3 := by simp only [zb_undergo, if_neg c_1, if_neg c_5, if_neg c_9, if_pos c_12]
          exact W.vret hx hb hr (fun t ht hW => ⟨⟨(), rfl, trivial, by show va_P (dC, dI) vwCl (zb_W h0 (zb_undergo b p1 p2)) t.heap; rw [ht, hE_14]; exact hP⟩, hS.F ht⟩) hS.2.2 dz_B_undergo_63
        · have o_15 : p1.toInt < 0 ∨ 3 < p1.toInt := by
            have e0 := lv_neT c_1 (a := 0) rfl
            have e1 := lv_neT c_5 (a := 1) rfl
            have e2 := lv_neT c_9 (a := 2) rfl
            have e3 := lv_neT c_12 (a := 3) rfl
            omega
          refine lv_tableOut (tgt := 58) hx hb dz_B_undergo_1 o_15 (by decide) ?_
          refine lv_aload_n hx hb dz_B_undergo_58 rfl (lv_at hl 0 rfl) ?_
          refine lv_iconst (v := 0) hx hb dz_B_undergo_59 (by decide) ?_
          refine va_put (D := (dC, dI)) (ci := 0) (v := .int 0) (ty := .int) (C := RzB) (T := TzB) (N := 9) hx hb hz inzB tyzB tyzB_ok nmzB hown hK hP hD hS 0 rfl rfl 1 (by decide) (hz _ zi_87) (fun _ h9 => h9) rfl (by decide +kernel) rfl rfl (Nat.le_of_ble_eq_true rfl) dz_B_undergo_60 (fun H locs hP hD hS => ?_)
          obtain ⟨S_16, eS_16⟩ : ∃ z, z = zb_sDr b 0 := ⟨_, rfl⟩
          have hP : va_P (dC, dI) vwCl (zb_W h0 S_16) H := by rw [eS_16]; exact hP
          have hD : va_D A (zb_W h0 S_16) := by rw [eS_16]; exact hD
          subst eS_16
          have hE_17 : zb_undergo b p1 p2 = zb_sDr b 0 := by simp only [zb_undergo, if_neg c_1, if_neg c_5, if_neg c_9, if_neg c_12]
          exact W.vret hx hb hr (fun t ht hW => ⟨⟨(), rfl, trivial, by show va_P (dC, dI) vwCl (zb_W h0 (zb_undergo b p1 p2)) t.heap; rw [ht, hE_17]; exact hP⟩, hS.F ht⟩) hS.2.2 dz_B_undergo_63
set_option maxHeartbeats 4000000 in
set_option maxRecDepth 100000 in
theorem ct_B_receive (l : Launch) (dC : Nat → ClassId) (dI : Nat → Nat → Nat) (cq ci : ClassId) (h0 : Nat) (b : zb_T) (sz : Nat) (p1 : Int32) : Met l yz_B_receive wz_B_receive (zw_room 0 0 0) (zw_U zw_ns (dC, dI) vwCl (zl_tys cq ci) [.ref h0, .int p1] (zb_W h0 b) sz) (va_Qv (fun _ : Unit => True) (fun (_ : Unit) (t : State) => va_P (dC, dI) vwCl (zb_W h0 (zb_receive b p1)) t.heap) (va_A (zb_W h0 b) sz)) 0 0 (va_A (zb_W h0 b) sz) := by
  refine Met.ofW (cc := cz_B_receive) (maxL := 2) (ret := none) (by decide) rfl ?_
  intro p e s m args below meth c s₁ B hml hv
  obtain ⟨rfl, hsz, hP, hK, hD0, hN⟩ := hv
  have hx := B.exec
  have hb := B.bytes
  have hr := B.returns
  have hts := atoms_spec (ws := wz_B_receive) B.pre
  have hz : ∀ w ∈ zw_T, w.before ([.ref h0, .int p1] : List Value).toArray s = true := fun w h => hts w (List.mem_cons_of_mem _ h)
  have hown : s.vm.findClass RzB = some m.cls := findClass_of_methodNamed B.named
  have hlocks := B.notSynchronized
  subst hsz
  have hD := hD0.self (sz := s.heap.size)
  generalize hAe : va_A (zb_W h0 b) s.heap.size = A at hD ⊢
  have hA : ∀ q : Nat, s.heap.size ≤ q → A q := fun q h => by rw [← hAe]; exact Or.inr h
  have hS : va_S A s.heap s.heap [] := va_S.rf
  have hl := lv_entry ([.ref h0, .int p1]) (n := 2) (Nat.le_of_ble_eq_true rfl)
  rw [lg_entry_eq]
  generalize (lg_sl ([.ref h0, .int p1]) ++ List.replicate (2 - (lg_sl ([.ref h0, .int p1])).length) Slot.unset).toArray = ls at hl ⊢
  have hl : lv_has ls 2 [(0, .ref h0), (1, .int p1)] := hl
  refine lv_aload_n hx hb dz_B_receive_0 rfl (lv_at hl 0 rfl) ?_
  refine lv_iload_n hx hb dz_B_receive_1 rfl (lv_at hl 1 rfl) ?_
  refine va_put (D := (dC, dI)) (ci := 0) (v := .int p1) (ty := .int) (C := RzB) (T := TzB) (N := 9) hx hb hz inzB tyzB tyzB_ok nmzB hown hK hP hD hS 0 rfl rfl 4 (by decide) (hz _ zi_90) (fun _ h9 => h9) rfl (by decide +kernel) rfl rfl (Nat.le_of_ble_eq_true rfl) dz_B_receive_2 (fun H locs hP hD hS => ?_)
  obtain ⟨S_1, eS_1⟩ : ∃ z, z = zb_sIt b p1 := ⟨_, rfl⟩
  have hP : va_P (dC, dI) vwCl (zb_W h0 S_1) H := by rw [eS_1]; exact hP
  have hD : va_D A (zb_W h0 S_1) := by rw [eS_1]; exact hD
  refine lv_aload_n hx hb dz_B_receive_5 rfl (lv_at hl 0 rfl) ?_
  refine lv_lconst (v := 0) hx hb dz_B_receive_6 (by decide) ?_
  refine va_put (D := (dC, dI)) (ci := 0) (v := .long 0) (ty := .long) (C := RzB) (T := TzB) (N := 9) hx hb hz inzB tyzB tyzB_ok nmzB hown hK hP hD hS 0 rfl rfl 8 (by decide) (hz _ zi_94) (fun _ h9 => h9) rfl (by decide +kernel) rfl rfl (Nat.le_of_ble_eq_true rfl) dz_B_receive_7 (fun H locs hP hD hS => ?_)
  obtain ⟨S_2, eS_2⟩ : ∃ z, z = zb_sKe S_1 0 := ⟨_, rfl⟩
  have hP : va_P (dC, dI) vwCl (zb_W h0 S_2) H := by rw [eS_2]; exact hP
  have hD : va_D A (zb_W h0 S_2) := by rw [eS_2]; exact hD
  subst eS_1 eS_2
  have hE_3 : zb_receive b p1 = zb_sKe (zb_sIt b p1) 0 := by simp only [zb_receive]
  exact W.vret hx hb hr (fun t ht hW => ⟨⟨(), rfl, trivial, by show va_P (dC, dI) vwCl (zb_W h0 (zb_receive b p1)) t.heap; rw [ht, hE_3]; exact hP⟩, hS.F ht⟩) hS.2.2 dz_B_receive_10
set_option maxHeartbeats 4000000 in
set_option maxRecDepth 100000 in
theorem ct_B_layDown (l : Launch) (dC : Nat → ClassId) (dI : Nat → Nat → Nat) (cq ci : ClassId) (h0 : Nat) (b : zb_T) (sz : Nat) (p1 : Int32) (p2 : Int64) : Met l yz_B_layDown wz_B_layDown (zw_room 0 0 0) (zw_U zw_ns (dC, dI) vwCl (zl_tys cq ci) [.ref h0, .int p1, .long p2] (zb_W h0 b) sz) (va_Qv (fun _ : Unit => True) (fun (_ : Unit) (t : State) => va_P (dC, dI) vwCl (zb_W h0 (zb_lay b p1 p2)) t.heap) (va_A (zb_W h0 b) sz)) 0 0 (va_A (zb_W h0 b) sz) := by
  refine Met.ofW (cc := cz_B_layDown) (maxL := 4) (ret := none) (by decide) rfl ?_
  intro p e s m args below meth c s₁ B hml hv
  obtain ⟨rfl, hsz, hP, hK, hD0, hN⟩ := hv
  have hx := B.exec
  have hb := B.bytes
  have hr := B.returns
  have hts := atoms_spec (ws := wz_B_layDown) B.pre
  have hz : ∀ w ∈ zw_T, w.before ([.ref h0, .int p1, .long p2] : List Value).toArray s = true := fun w h => hts w (List.mem_cons_of_mem _ h)
  have hown : s.vm.findClass RzB = some m.cls := findClass_of_methodNamed B.named
  have hlocks := B.notSynchronized
  subst hsz
  have hD := hD0.self (sz := s.heap.size)
  generalize hAe : va_A (zb_W h0 b) s.heap.size = A at hD ⊢
  have hA : ∀ q : Nat, s.heap.size ≤ q → A q := fun q h => by rw [← hAe]; exact Or.inr h
  have hS : va_S A s.heap s.heap [] := va_S.rf
  have hl := lv_entry ([.ref h0, .int p1, .long p2]) (n := 4) (Nat.le_of_ble_eq_true rfl)
  rw [lg_entry_eq]
  generalize (lg_sl ([.ref h0, .int p1, .long p2]) ++ List.replicate (4 - (lg_sl ([.ref h0, .int p1, .long p2])).length) Slot.unset).toArray = ls at hl ⊢
  have hl : lv_has ls 4 [(0, .ref h0), (1, .int p1), (2, .long p2)] := hl
  refine lv_aload_n hx hb dz_B_layDown_0 rfl (lv_at hl 0 rfl) ?_
  refine lv_iload_n hx hb dz_B_layDown_1 rfl (lv_at hl 1 rfl) ?_
  refine va_put (D := (dC, dI)) (ci := 0) (v := .int p1) (ty := .int) (C := RzB) (T := TzB) (N := 9) hx hb hz inzB tyzB tyzB_ok nmzB hown hK hP hD hS 0 rfl rfl 5 (by decide) (hz _ zi_91) (fun _ h9 => h9) rfl (by decide +kernel) rfl rfl (Nat.le_of_ble_eq_true rfl) dz_B_layDown_2 (fun H locs hP hD hS => ?_)
  obtain ⟨S_1, eS_1⟩ : ∃ z, z = zb_sCo b p1 := ⟨_, rfl⟩
  have hP : va_P (dC, dI) vwCl (zb_W h0 S_1) H := by rw [eS_1]; exact hP
  have hD : va_D A (zb_W h0 S_1) := by rw [eS_1]; exact hD
  refine lv_aload_n hx hb dz_B_layDown_5 rfl (lv_at hl 0 rfl) ?_
  refine lv_lload_n hx hb dz_B_layDown_6 rfl (lv_at hl 2 rfl) ?_
  refine va_put (D := (dC, dI)) (ci := 0) (v := .long p2) (ty := .long) (C := RzB) (T := TzB) (N := 9) hx hb hz inzB tyzB tyzB_ok nmzB hown hK hP hD hS 0 rfl rfl 6 (by decide) (hz _ zi_92) (fun _ h9 => h9) rfl (by decide +kernel) rfl rfl (Nat.le_of_ble_eq_true rfl) dz_B_layDown_7 (fun H locs hP hD hS => ?_)
  obtain ⟨S_2, eS_2⟩ : ∃ z, z = zb_sLs S_1 p2 := ⟨_, rfl⟩
  have hP : va_P (dC, dI) vwCl (zb_W h0 S_2) H := by rw [eS_2]; exact hP
  have hD : va_D A (zb_W h0 S_2) := by rw [eS_2]; exact hD
  subst eS_1 eS_2
  have hE_3 : zb_lay b p1 p2 = zb_sLs (zb_sCo b p1) p2 := by simp only [zb_lay]
  exact W.vret hx hb hr (fun t ht hW => ⟨⟨(), rfl, trivial, by show va_P (dC, dI) vwCl (zb_W h0 (zb_lay b p1 p2)) t.heap; rw [ht, hE_3]; exact hP⟩, hS.F ht⟩) hS.2.2 dz_B_layDown_10
set_option maxHeartbeats 4000000 in
set_option maxRecDepth 100000 in
theorem ct_B_clear (l : Launch) (dC : Nat → ClassId) (dI : Nat → Nat → Nat) (cq ci : ClassId) (h0 : Nat) (b : zb_T) (sz : Nat) : Met l yz_B_clear wz_B_clear (zw_room 0 0 0) (zw_U zw_ns (dC, dI) vwCl (zl_tys cq ci) [.ref h0] (zb_W h0 b) sz) (va_Qv (fun _ : Unit => True) (fun (_ : Unit) (t : State) => va_P (dC, dI) vwCl (zb_W h0 (zb_clear b)) t.heap) (va_A (zb_W h0 b) sz)) 0 0 (va_A (zb_W h0 b) sz) := by
  refine Met.ofW (cc := cz_B_clear) (maxL := 1) (ret := none) (by decide) rfl ?_
  intro p e s m args below meth c s₁ B hml hv
  obtain ⟨rfl, hsz, hP, hK, hD0, hN⟩ := hv
  have hx := B.exec
  have hb := B.bytes
  have hr := B.returns
  have hts := atoms_spec (ws := wz_B_clear) B.pre
  have hz : ∀ w ∈ zw_T, w.before ([.ref h0] : List Value).toArray s = true := fun w h => hts w (List.mem_cons_of_mem _ h)
  have hown : s.vm.findClass RzB = some m.cls := findClass_of_methodNamed B.named
  have hlocks := B.notSynchronized
  subst hsz
  have hD := hD0.self (sz := s.heap.size)
  generalize hAe : va_A (zb_W h0 b) s.heap.size = A at hD ⊢
  have hA : ∀ q : Nat, s.heap.size ≤ q → A q := fun q h => by rw [← hAe]; exact Or.inr h
  have hS : va_S A s.heap s.heap [] := va_S.rf
  have hl := lv_entry ([.ref h0]) (n := 1) (Nat.le_of_ble_eq_true rfl)
  rw [lg_entry_eq]
  generalize (lg_sl ([.ref h0]) ++ List.replicate (1 - (lg_sl ([.ref h0])).length) Slot.unset).toArray = ls at hl ⊢
  have hl : lv_has ls 1 [(0, .ref h0)] := hl
  refine lv_aload_n hx hb dz_B_clear_0 rfl (lv_at hl 0 rfl) ?_
  refine lv_iconst (v := 0) hx hb dz_B_clear_1 (by decide) ?_
  refine va_put (D := (dC, dI)) (ci := 0) (v := .int 0) (ty := .int) (C := RzB) (T := TzB) (N := 9) hx hb hz inzB tyzB tyzB_ok nmzB hown hK hP hD hS 0 rfl rfl 4 (by decide) (hz _ zi_90) (fun _ h9 => h9) rfl (by decide +kernel) rfl rfl (Nat.le_of_ble_eq_true rfl) dz_B_clear_2 (fun H locs hP hD hS => ?_)
  obtain ⟨S_1, eS_1⟩ : ∃ z, z = zb_sIt b 0 := ⟨_, rfl⟩
  have hP : va_P (dC, dI) vwCl (zb_W h0 S_1) H := by rw [eS_1]; exact hP
  have hD : va_D A (zb_W h0 S_1) := by rw [eS_1]; exact hD
  refine lv_aload_n hx hb dz_B_clear_5 rfl (lv_at hl 0 rfl) ?_
  refine lv_iconst (v := -1) hx hb dz_B_clear_6 (by decide) ?_
  refine va_put (D := (dC, dI)) (ci := 0) (v := .int (-1)) (ty := .int) (C := RzB) (T := TzB) (N := 9) hx hb hz inzB tyzB tyzB_ok nmzB hown hK hP hD hS 0 rfl rfl 5 (by decide) (hz _ zi_91) (fun _ h9 => h9) rfl (by decide +kernel) rfl rfl (Nat.le_of_ble_eq_true rfl) dz_B_clear_7 (fun H locs hP hD hS => ?_)
  obtain ⟨S_2, eS_2⟩ : ∃ z, z = zb_sCo S_1 (-1) := ⟨_, rfl⟩
  have hP : va_P (dC, dI) vwCl (zb_W h0 S_2) H := by rw [eS_2]; exact hP
  have hD : va_D A (zb_W h0 S_2) := by rw [eS_2]; exact hD
  refine lv_aload_n hx hb dz_B_clear_10 rfl (lv_at hl 0 rfl) ?_
  refine lv_iconst (v := 0) hx hb dz_B_clear_11 (by decide) ?_
  refine va_put (D := (dC, dI)) (ci := 0) (v := .int 0) (ty := .boolean) (C := RzB) (T := TzB) (N := 9) hx hb hz inzB tyzB tyzB_ok nmzB hown hK hP hD hS 0 rfl rfl 7 (by decide) (hz _ zi_93) (fun _ h9 => h9) rfl (by decide +kernel) rfl rfl (Nat.le_of_ble_eq_true rfl) dz_B_clear_12 (fun H locs hP hD hS => ?_)
  obtain ⟨S_3, eS_3⟩ : ∃ z, z = zb_sLa S_2 0 := ⟨_, rfl⟩
  have hP : va_P (dC, dI) vwCl (zb_W h0 S_3) H := by rw [eS_3]; exact hP
  have hD : va_D A (zb_W h0 S_3) := by rw [eS_3]; exact hD
  subst eS_1 eS_2 eS_3
  have hE_4 : zb_clear b = zb_sLa (zb_sCo (zb_sIt b 0) (-1)) 0 := by simp only [zb_clear]
  exact W.vret hx hb hr (fun t ht hW => ⟨⟨(), rfl, trivial, by show va_P (dC, dI) vwCl (zb_W h0 (zb_clear b)) t.heap; rw [ht, hE_4]; exact hP⟩, hS.F ht⟩) hS.2.2 dz_B_clear_15
set_option maxHeartbeats 4000000 in
set_option maxRecDepth 100000 in
theorem ct_B_freeIfDue (l : Launch) (dC : Nat → ClassId) (dI : Nat → Nat → Nat) (cq ci : ClassId) (h0 : Nat) (b : zb_T) (sz : Nat) (p1 : Int64) : Met l yz_B_freeIfDue wz_B_freeIfDue (zw_room 0 0 0) (zw_U zw_ns (dC, dI) vwCl (zl_tys cq ci) [.ref h0, .long p1] (zb_W h0 b) sz) (va_Qi (fun (r : Int32) (_ : Unit) => r = (zb_free b p1).1) (fun (_ : Unit) (t : State) => va_P (dC, dI) vwCl (zb_W h0 ((zb_free b p1).2)) t.heap) (va_A (zb_W h0 b) sz)) 0 0 (va_A (zb_W h0 b) sz) := by
  refine Met.ofW (cc := cz_B_freeIfDue) (maxL := 3) (ret := (some .boolean)) (by decide) rfl ?_
  intro p e s m args below meth c s₁ B hml hv
  obtain ⟨rfl, hsz, hP, hK, hD0, hN⟩ := hv
  have hx := B.exec
  have hb := B.bytes
  have hr := B.returns
  have hts := atoms_spec (ws := wz_B_freeIfDue) B.pre
  have hz : ∀ w ∈ zw_T, w.before ([.ref h0, .long p1] : List Value).toArray s = true := fun w h => hts w (List.mem_cons_of_mem _ h)
  have hown : s.vm.findClass RzB = some m.cls := findClass_of_methodNamed B.named
  have hlocks := B.notSynchronized
  subst hsz
  have hD := hD0.self (sz := s.heap.size)
  generalize hAe : va_A (zb_W h0 b) s.heap.size = A at hD ⊢
  have hA : ∀ q : Nat, s.heap.size ≤ q → A q := fun q h => by rw [← hAe]; exact Or.inr h
  have hS : va_S A s.heap s.heap [] := va_S.rf
  have hl := lv_entry ([.ref h0, .long p1]) (n := 3) (Nat.le_of_ble_eq_true rfl)
  rw [lg_entry_eq]
  generalize (lg_sl ([.ref h0, .long p1]) ++ List.replicate (3 - (lg_sl ([.ref h0, .long p1])).length) Slot.unset).toArray = ls at hl ⊢
  have hl : lv_has ls 3 [(0, .ref h0), (1, .long p1)] := hl
  refine lv_aload_n hx hb dz_B_freeIfDue_0 rfl (lv_at hl 0 rfl) ?_
  refine va_get (D := (dC, dI)) (ci := 0) (v := .long (zb_Ke b)) (C := RzB) (T := TzB) (N := 9) hx hb hz inzB hown hK hP 0 rfl rfl 8 (by decide) (hz _ zi_94) (fun _ h9 => h9) rfl dz_B_freeIfDue_1 ?_
  refine lv_lconst (v := 0) hx hb dz_B_freeIfDue_4 (by decide) ?_
  refine W.lcmp hx hb dz_B_freeIfDue_5 ?_
  refine lv_if_eq (tgt := 18) hx hb dz_B_freeIfDue_6 (by decide) (fun c_1 => ?_) (fun c_1 => ?_)
  · refine lv_iconst (v := 0) hx hb dz_B_freeIfDue_18 (by decide) ?_
    have hE_2 : zb_free b p1 = (0, b) := by simp only [zb_free, if_pos c_1]
    exact W.zret (v := 0) (ty := .boolean) hx hb hr rfl (fun t ht hW => ⟨⟨_, (), rfl, by show 0 = (zb_free b p1).1; rw [hE_2], by show va_P (dC, dI) vwCl (zb_W h0 ((zb_free b p1).2)) t.heap; rw [ht, hE_2]; exact hP⟩, hS.F ht⟩) hS.2.2 dz_B_freeIfDue_19
  · refine lv_aload_n hx hb dz_B_freeIfDue_9 rfl (lv_at hl 0 rfl) ?_
    refine va_get (D := (dC, dI)) (ci := 0) (v := .long (zb_Ke b)) (C := RzB) (T := TzB) (N := 9) hx hb hz inzB hown hK hP 0 rfl rfl 8 (by decide) (hz _ zi_94) (fun _ h9 => h9) rfl dz_B_freeIfDue_10 ?_
    refine lv_lload_n hx hb dz_B_freeIfDue_13 rfl (lv_at hl 1 rfl) ?_
    refine W.lcmp hx hb dz_B_freeIfDue_14 ?_
    refine lv_if_le (tgt := 20) hx hb dz_B_freeIfDue_15 (by decide) (fun c_3 => ?_) (fun c_3 => ?_)
    · refine lv_aload_n hx hb dz_B_freeIfDue_20 rfl (lv_at hl 0 rfl) ?_
      refine lv_lconst (v := 0) hx hb dz_B_freeIfDue_21 (by decide) ?_
      refine va_put (D := (dC, dI)) (ci := 0) (v := .long 0) (ty := .long) (C := RzB) (T := TzB) (N := 9) hx hb hz inzB tyzB tyzB_ok nmzB hown hK hP hD hS 0 rfl rfl 8 (by decide) (hz _ zi_94) (fun _ h9 => h9) rfl (by decide +kernel) rfl rfl (Nat.le_of_ble_eq_true rfl) dz_B_freeIfDue_22 (fun H locs hP hD hS => ?_)
      obtain ⟨S_4, eS_4⟩ : ∃ z, z = zb_sKe b 0 := ⟨_, rfl⟩
      have hP : va_P (dC, dI) vwCl (zb_W h0 S_4) H := by rw [eS_4]; exact hP
      have hD : va_D A (zb_W h0 S_4) := by rw [eS_4]; exact hD
      refine lv_iconst (v := 1) hx hb dz_B_freeIfDue_25 (by decide) ?_
      subst eS_4
      have hE_5 : zb_free b p1 = (1, zb_sKe b 0) := by simp only [zb_free, if_neg c_1, if_pos c_3]
      exact W.zret (v := 1) (ty := .boolean) hx hb hr rfl (fun t ht hW => ⟨⟨_, (), rfl, by show 1 = (zb_free b p1).1; rw [hE_5], by show va_P (dC, dI) vwCl (zb_W h0 ((zb_free b p1).2)) t.heap; rw [ht, hE_5]; exact hP⟩, hS.F ht⟩) hS.2.2 dz_B_freeIfDue_26
    · refine lv_iconst (v := 0) hx hb dz_B_freeIfDue_18 (by decide) ?_
      have hE_6 : zb_free b p1 = (0, b) := by simp only [zb_free, if_neg c_1, if_neg c_3]
      exact W.zret (v := 0) (ty := .boolean) hx hb hr rfl (fun t ht hW => ⟨⟨_, (), rfl, by show 0 = (zb_free b p1).1; rw [hE_6], by show va_P (dC, dI) vwCl (zb_W h0 ((zb_free b p1).2)) t.heap; rw [ht, hE_6]; exact hP⟩, hS.F ht⟩) hS.2.2 dz_B_freeIfDue_19
set_option maxHeartbeats 4000000 in
set_option maxRecDepth 100000 in
theorem ct_B_tellAlarms (l : Launch) (dC : Nat → ClassId) (dI : Nat → Nat → Nat) (cq ci : ClassId) (h0 : Nat) (b : zb_T) (sz : Nat) (p1 : Int64) : Met l yz_B_tellAlarms wz_B_tellAlarms (zw_room 1 0 0) (zw_U zw_ns (dC, dI) vwCl (zl_tys cq ci) [.ref h0, .long p1] (zb_W h0 b) sz) (va_Qi (fun (r : Int32) (_ : Unit) => r = (zb_tell b p1).1) (fun (_ : Unit) (t : State) => va_P (dC, dI) vwCl (zb_W h0 ((zb_tell b p1).2)) t.heap) (va_A (zb_W h0 b) sz)) 0 0 (va_A (zb_W h0 b) sz) := by
  refine Met.ofW (cc := cz_B_tellAlarms) (maxL := 4) (ret := (some .int)) (by decide) rfl ?_
  intro p e s m args below meth c s₁ B hml hv
  obtain ⟨rfl, hsz, hP, hK, hD0, hN⟩ := hv
  have hx := B.exec
  have hb := B.bytes
  have hr := B.returns
  have hts := atoms_spec (ws := wz_B_tellAlarms) B.pre
  have hz : ∀ w ∈ zw_T, w.before ([.ref h0, .long p1] : List Value).toArray s = true := fun w h => hts w (List.mem_cons_of_mem _ h)
  have hown : s.vm.findClass RzB = some m.cls := findClass_of_methodNamed B.named
  have hlocks := B.notSynchronized
  subst hsz
  have hD := hD0.self (sz := s.heap.size)
  generalize hAe : va_A (zb_W h0 b) s.heap.size = A at hD ⊢
  have hA : ∀ q : Nat, s.heap.size ≤ q → A q := fun q h => by rw [← hAe]; exact Or.inr h
  have hS : va_S A s.heap s.heap [] := va_S.rf
  have hl := lv_entry ([.ref h0, .long p1]) (n := 4) (Nat.le_of_ble_eq_true rfl)
  rw [lg_entry_eq]
  generalize (lg_sl ([.ref h0, .long p1]) ++ List.replicate (4 - (lg_sl ([.ref h0, .long p1])).length) Slot.unset).toArray = ls at hl ⊢
  have hl : lv_has ls 4 [(0, .ref h0), (1, .long p1)] := hl
  refine lv_iconst (v := 0) hx hb dz_B_tellAlarms_0 (by decide) ?_
  refine lv_istore_n (lv' := [(3, .int 0), (0, .ref h0), (1, .long p1)]) hx hb dz_B_tellAlarms_1 rfl hl (by decide) rfl (fun ls hl => ?_)
  refine lv_aload_n hx hb dz_B_tellAlarms_2 rfl (lv_at hl 1 rfl) ?_
  refine vp_callSi (va_Run.run (va_runV (As := []) (rest := []) ⟨hx, hb, hml, hown, hz⟩ (ct_B_isOpenOrForced l dC dI cq ci h0 b) (cwV 0 hz (zw_gV zi_152 zi_153 zi_11 zi_36 zi_154) rfl rfl rfl (by decide +kernel) ⟨Nat.le_of_ble_eq_true rfl, Nat.le_of_ble_eq_true rfl⟩) (zw_preRV zw_ns_ok hP hK hN (ci := 0) rfl (k := 0) rfl) rfl rfl hl.1 rfl (lv_room (Nat.le_of_ble_eq_true rfl)) dz_B_tellAlarms_3 ⟨Nat.le_of_ble_eq_true rfl, Nat.le_of_ble_eq_true rfl⟩)) (fun r_1 hr_1 => ?_)
  have hr_1 : r_1 = zb_isOpen b := hr_1
  subst hr_1
  refine lv_if_eq (tgt := 37) hx hb dz_B_tellAlarms_6 (by decide) (fun c_2 => ?_) (fun c_2 => ?_)
  · refine lv_aload_n hx hb dz_B_tellAlarms_37 rfl (lv_at hl 1 rfl) ?_
    refine vp_callSi (va_Run.run (va_runV (As := []) (rest := []) ⟨hx, hb, hml, hown, hz⟩ (ct_B_lies l dC dI cq ci h0 b) (cwV 0 hz (zw_gV zi_156 zi_157 zi_12 zi_36 zi_158) rfl rfl rfl (by decide +kernel) ⟨Nat.le_of_ble_eq_true rfl, Nat.le_of_ble_eq_true rfl⟩) (zw_preRV zw_ns_ok hP hK hN (ci := 0) rfl (k := 0) rfl) rfl rfl hl.1 rfl (lv_room (Nat.le_of_ble_eq_true rfl)) dz_B_tellAlarms_38 ⟨Nat.le_of_ble_eq_true rfl, Nat.le_of_ble_eq_true rfl⟩)) (fun r_3 hr_3 => ?_)
    have hr_3 : r_3 = zb_lies b := hr_3
    subst hr_3
    refine lv_if_eq (tgt := 72) hx hb dz_B_tellAlarms_41 (by decide) (fun c_4 => ?_) (fun c_4 => ?_)
    · refine lv_iload_n hx hb dz_B_tellAlarms_72 rfl (lv_at hl 0 rfl) ?_
      have hE_5 : zb_tell b p1 = (0, b) := by simp only [zb_tell, if_pos c_2, if_pos c_4]
      exact W.iret (v := 0) hx hb hr (fun t ht hW => ⟨⟨_, (), rfl, by show 0 = (zb_tell b p1).1; rw [hE_5], by show va_P (dC, dI) vwCl (zb_W h0 ((zb_tell b p1).2)) t.heap; rw [ht, hE_5]; exact hP⟩, hS.F ht⟩) hS.2.2 dz_B_tellAlarms_73
    · refine lv_aload_n hx hb dz_B_tellAlarms_44 rfl (lv_at hl 1 rfl) ?_
      refine va_get (D := (dC, dI)) (ci := 0) (v := .int (zb_La b)) (C := RzB) (T := TzB) (N := 9) hx hb hz inzB hown hK hP 0 rfl rfl 7 (by decide) (hz _ zi_93) (fun _ h9 => h9) rfl dz_B_tellAlarms_45 ?_
      refine lv_if_ne (tgt := 72) hx hb dz_B_tellAlarms_48 (by decide) (fun c_6 => ?_) (fun c_6 => ?_)
      · refine lv_iload_n hx hb dz_B_tellAlarms_72 rfl (lv_at hl 0 rfl) ?_
        have hE_7 : zb_tell b p1 = (0, b) := by simp only [zb_tell, if_pos c_2, if_neg c_4, if_neg c_6]
        exact W.iret (v := 0) hx hb hr (fun t ht hW => ⟨⟨_, (), rfl, by show 0 = (zb_tell b p1).1; rw [hE_7], by show va_P (dC, dI) vwCl (zb_W h0 ((zb_tell b p1).2)) t.heap; rw [ht, hE_7]; exact hP⟩, hS.F ht⟩) hS.2.2 dz_B_tellAlarms_73
      · refine lv_lload_n hx hb dz_B_tellAlarms_51 rfl (lv_at hl 2 rfl) ?_
        refine lv_aload_n hx hb dz_B_tellAlarms_52 rfl (lv_at hl 1 rfl) ?_
        refine va_get (D := (dC, dI)) (ci := 0) (v := .long (zb_Ls b)) (C := RzB) (T := TzB) (N := 9) hx hb hz inzB hown hK hP 0 rfl rfl 6 (by decide) (hz _ zi_92) (fun _ h9 => h9) rfl dz_B_tellAlarms_53 ?_
        refine lv_lsub hx hb dz_B_tellAlarms_56 ?_
        refine lv_ldc2 (v := 604800) hx hb hown (hz _ zi_159) dz_B_tellAlarms_57 ?_
        refine W.lcmp hx hb dz_B_tellAlarms_60 ?_
        refine lv_if_lt (tgt := 72) hx hb dz_B_tellAlarms_61 (by decide) (fun c_8 => ?_) (fun c_8 => ?_)
        · refine lv_iload_n hx hb dz_B_tellAlarms_72 rfl (lv_at hl 0 rfl) ?_
          have hE_9 : zb_tell b p1 = (0, b) := by simp only [zb_tell, if_pos c_2, if_neg c_4, if_pos c_6, if_pos c_8]
          exact W.iret (v := 0) hx hb hr (fun t ht hW => ⟨⟨_, (), rfl, by show 0 = (zb_tell b p1).1; rw [hE_9], by show va_P (dC, dI) vwCl (zb_W h0 ((zb_tell b p1).2)) t.heap; rw [ht, hE_9]; exact hP⟩, hS.F ht⟩) hS.2.2 dz_B_tellAlarms_73
        · refine lv_aload_n hx hb dz_B_tellAlarms_64 rfl (lv_at hl 1 rfl) ?_
          refine lv_iconst (v := 1) hx hb dz_B_tellAlarms_65 (by decide) ?_
          refine va_put (D := (dC, dI)) (ci := 0) (v := .int 1) (ty := .boolean) (C := RzB) (T := TzB) (N := 9) hx hb hz inzB tyzB tyzB_ok nmzB hown hK hP hD hS 0 rfl rfl 7 (by decide) (hz _ zi_93) (fun _ h9 => h9) rfl (by decide +kernel) rfl rfl (Nat.le_of_ble_eq_true rfl) dz_B_tellAlarms_66 (fun H locs hP hD hS => ?_)
          obtain ⟨S_10, eS_10⟩ : ∃ z, z = zb_sLa b 1 := ⟨_, rfl⟩
          have hP : va_P (dC, dI) vwCl (zb_W h0 S_10) H := by rw [eS_10]; exact hP
          have hD : va_D A (zb_W h0 S_10) := by rw [eS_10]; exact hD
          refine lv_iinc (v := 0 + 1) (lv' := [(3, .int (0 + 1)), (0, .ref h0), (1, .long p1)]) hx hb dz_B_tellAlarms_69 hl (k := 0) rfl rfl (by decide) rfl (fun ls hl => ?_)
          refine lv_iload_n hx hb dz_B_tellAlarms_72 rfl (lv_at hl 0 rfl) ?_
          subst eS_10
          have hE_11 : zb_tell b p1 = (0 + 1, zb_sLa b 1) := by simp only [zb_tell, if_pos c_2, if_neg c_4, if_pos c_6, if_neg c_8]
          exact W.iret (v := 0 + 1) hx hb hr (fun t ht hW => ⟨⟨_, (), rfl, by show 0 + 1 = (zb_tell b p1).1; rw [hE_11], by show va_P (dC, dI) vwCl (zb_W h0 ((zb_tell b p1).2)) t.heap; rw [ht, hE_11]; exact hP⟩, hS.F ht⟩) hS.2.2 dz_B_tellAlarms_73
  · refine lv_aload_n hx hb dz_B_tellAlarms_9 rfl (lv_at hl 1 rfl) ?_
    refine va_get (D := (dC, dI)) (ci := 0) (v := .int (zb_To b)) (C := RzB) (T := TzB) (N := 9) hx hb hz inzB hown hK hP 0 rfl rfl 3 (by decide) (hz _ zi_89) (fun _ h9 => h9) rfl dz_B_tellAlarms_10 ?_
    refine lv_if_ne (tgt := 37) hx hb dz_B_tellAlarms_13 (by decide) (fun c_12 => ?_) (fun c_12 => ?_)
    · refine lv_aload_n hx hb dz_B_tellAlarms_37 rfl (lv_at hl 1 rfl) ?_
      refine vp_callSi (va_Run.run (va_runV (As := []) (rest := []) ⟨hx, hb, hml, hown, hz⟩ (ct_B_lies l dC dI cq ci h0 b) (cwV 0 hz (zw_gV zi_156 zi_157 zi_12 zi_36 zi_158) rfl rfl rfl (by decide +kernel) ⟨Nat.le_of_ble_eq_true rfl, Nat.le_of_ble_eq_true rfl⟩) (zw_preRV zw_ns_ok hP hK hN (ci := 0) rfl (k := 0) rfl) rfl rfl hl.1 rfl (lv_room (Nat.le_of_ble_eq_true rfl)) dz_B_tellAlarms_38 ⟨Nat.le_of_ble_eq_true rfl, Nat.le_of_ble_eq_true rfl⟩)) (fun r_13 hr_13 => ?_)
      have hr_13 : r_13 = zb_lies b := hr_13
      subst hr_13
      refine lv_if_eq (tgt := 72) hx hb dz_B_tellAlarms_41 (by decide) (fun c_14 => ?_) (fun c_14 => ?_)
      · refine lv_iload_n hx hb dz_B_tellAlarms_72 rfl (lv_at hl 0 rfl) ?_
        have hE_15 : zb_tell b p1 = (0, b) := by simp only [zb_tell, if_neg c_2, if_neg c_12, if_pos c_14]
        exact W.iret (v := 0) hx hb hr (fun t ht hW => ⟨⟨_, (), rfl, by show 0 = (zb_tell b p1).1; rw [hE_15], by show va_P (dC, dI) vwCl (zb_W h0 ((zb_tell b p1).2)) t.heap; rw [ht, hE_15]; exact hP⟩, hS.F ht⟩) hS.2.2 dz_B_tellAlarms_73
      · refine lv_aload_n hx hb dz_B_tellAlarms_44 rfl (lv_at hl 1 rfl) ?_
        refine va_get (D := (dC, dI)) (ci := 0) (v := .int (zb_La b)) (C := RzB) (T := TzB) (N := 9) hx hb hz inzB hown hK hP 0 rfl rfl 7 (by decide) (hz _ zi_93) (fun _ h9 => h9) rfl dz_B_tellAlarms_45 ?_
        refine lv_if_ne (tgt := 72) hx hb dz_B_tellAlarms_48 (by decide) (fun c_16 => ?_) (fun c_16 => ?_)
        · refine lv_iload_n hx hb dz_B_tellAlarms_72 rfl (lv_at hl 0 rfl) ?_
          have hE_17 : zb_tell b p1 = (0, b) := by simp only [zb_tell, if_neg c_2, if_neg c_12, if_neg c_14, if_neg c_16]
          exact W.iret (v := 0) hx hb hr (fun t ht hW => ⟨⟨_, (), rfl, by show 0 = (zb_tell b p1).1; rw [hE_17], by show va_P (dC, dI) vwCl (zb_W h0 ((zb_tell b p1).2)) t.heap; rw [ht, hE_17]; exact hP⟩, hS.F ht⟩) hS.2.2 dz_B_tellAlarms_73
        · refine lv_lload_n hx hb dz_B_tellAlarms_51 rfl (lv_at hl 2 rfl) ?_
          refine lv_aload_n hx hb dz_B_tellAlarms_52 rfl (lv_at hl 1 rfl) ?_
          refine va_get (D := (dC, dI)) (ci := 0) (v := .long (zb_Ls b)) (C := RzB) (T := TzB) (N := 9) hx hb hz inzB hown hK hP 0 rfl rfl 6 (by decide) (hz _ zi_92) (fun _ h9 => h9) rfl dz_B_tellAlarms_53 ?_
          refine lv_lsub hx hb dz_B_tellAlarms_56 ?_
          refine lv_ldc2 (v := 604800) hx hb hown (hz _ zi_159) dz_B_tellAlarms_57 ?_
          refine W.lcmp hx hb dz_B_tellAlarms_60 ?_
          refine lv_if_lt (tgt := 72) hx hb dz_B_tellAlarms_61 (by decide) (fun c_18 => ?_) (fun c_18 => ?_)
          · refine lv_iload_n hx hb dz_B_tellAlarms_72 rfl (lv_at hl 0 rfl) ?_
            have hE_19 : zb_tell b p1 = (0, b) := by simp only [zb_tell, if_neg c_2, if_neg c_12, if_neg c_14, if_pos c_16, if_pos c_18]
            exact W.iret (v := 0) hx hb hr (fun t ht hW => ⟨⟨_, (), rfl, by show 0 = (zb_tell b p1).1; rw [hE_19], by show va_P (dC, dI) vwCl (zb_W h0 ((zb_tell b p1).2)) t.heap; rw [ht, hE_19]; exact hP⟩, hS.F ht⟩) hS.2.2 dz_B_tellAlarms_73
          · refine lv_aload_n hx hb dz_B_tellAlarms_64 rfl (lv_at hl 1 rfl) ?_
            refine lv_iconst (v := 1) hx hb dz_B_tellAlarms_65 (by decide) ?_
            refine va_put (D := (dC, dI)) (ci := 0) (v := .int 1) (ty := .boolean) (C := RzB) (T := TzB) (N := 9) hx hb hz inzB tyzB tyzB_ok nmzB hown hK hP hD hS 0 rfl rfl 7 (by decide) (hz _ zi_93) (fun _ h9 => h9) rfl (by decide +kernel) rfl rfl (Nat.le_of_ble_eq_true rfl) dz_B_tellAlarms_66 (fun H locs hP hD hS => ?_)
            obtain ⟨S_20, eS_20⟩ : ∃ z, z = zb_sLa b 1 := ⟨_, rfl⟩
            have hP : va_P (dC, dI) vwCl (zb_W h0 S_20) H := by rw [eS_20]; exact hP
            have hD : va_D A (zb_W h0 S_20) := by rw [eS_20]; exact hD
            refine lv_iinc (v := 0 + 1) (lv' := [(3, .int (0 + 1)), (0, .ref h0), (1, .long p1)]) hx hb dz_B_tellAlarms_69 hl (k := 0) rfl rfl (by decide) rfl (fun ls hl => ?_)
            refine lv_iload_n hx hb dz_B_tellAlarms_72 rfl (lv_at hl 0 rfl) ?_
            subst eS_20
            have hE_21 : zb_tell b p1 = (0 + 1, zb_sLa b 1) := by simp only [zb_tell, if_neg c_2, if_neg c_12, if_neg c_14, if_pos c_16, if_neg c_18]
            exact W.iret (v := 0 + 1) hx hb hr (fun t ht hW => ⟨⟨_, (), rfl, by show 0 + 1 = (zb_tell b p1).1; rw [hE_21], by show va_P (dC, dI) vwCl (zb_W h0 ((zb_tell b p1).2)) t.heap; rw [ht, hE_21]; exact hP⟩, hS.F ht⟩) hS.2.2 dz_B_tellAlarms_73
    · refine lv_lload_n hx hb dz_B_tellAlarms_16 rfl (lv_at hl 2 rfl) ?_
      refine lv_aload_n hx hb dz_B_tellAlarms_17 rfl (lv_at hl 1 rfl) ?_
      refine va_get (D := (dC, dI)) (ci := 0) (v := .long (zb_Os b)) (C := RzB) (T := TzB) (N := 9) hx hb hz inzB hown hK hP 0 rfl rfl 2 (by decide) (hz _ zi_88) (fun _ h9 => h9) rfl dz_B_tellAlarms_18 ?_
      refine lv_lsub hx hb dz_B_tellAlarms_21 ?_
      refine lv_ldc2 (v := 120) hx hb hown (hz _ zi_155) dz_B_tellAlarms_22 ?_
      refine W.lcmp hx hb dz_B_tellAlarms_25 ?_
      refine lv_if_lt (tgt := 37) hx hb dz_B_tellAlarms_26 (by decide) (fun c_22 => ?_) (fun c_22 => ?_)
      · refine lv_aload_n hx hb dz_B_tellAlarms_37 rfl (lv_at hl 1 rfl) ?_
        refine vp_callSi (va_Run.run (va_runV (As := []) (rest := []) ⟨hx, hb, hml, hown, hz⟩ (ct_B_lies l dC dI cq ci h0 b) (cwV 0 hz (zw_gV zi_156 zi_157 zi_12 zi_36 zi_158) rfl rfl rfl (by decide +kernel) ⟨Nat.le_of_ble_eq_true rfl, Nat.le_of_ble_eq_true rfl⟩) (zw_preRV zw_ns_ok hP hK hN (ci := 0) rfl (k := 0) rfl) rfl rfl hl.1 rfl (lv_room (Nat.le_of_ble_eq_true rfl)) dz_B_tellAlarms_38 ⟨Nat.le_of_ble_eq_true rfl, Nat.le_of_ble_eq_true rfl⟩)) (fun r_23 hr_23 => ?_)
        have hr_23 : r_23 = zb_lies b := hr_23
        subst hr_23
        refine lv_if_eq (tgt := 72) hx hb dz_B_tellAlarms_41 (by decide) (fun c_24 => ?_) (fun c_24 => ?_)
        · refine lv_iload_n hx hb dz_B_tellAlarms_72 rfl (lv_at hl 0 rfl) ?_
          have hE_25 : zb_tell b p1 = (0, b) := by simp only [zb_tell, if_neg c_2, if_pos c_12, if_pos c_22, if_pos c_24]
          exact W.iret (v := 0) hx hb hr (fun t ht hW => ⟨⟨_, (), rfl, by show 0 = (zb_tell b p1).1; rw [hE_25], by show va_P (dC, dI) vwCl (zb_W h0 ((zb_tell b p1).2)) t.heap; rw [ht, hE_25]; exact hP⟩, hS.F ht⟩) hS.2.2 dz_B_tellAlarms_73
        · refine lv_aload_n hx hb dz_B_tellAlarms_44 rfl (lv_at hl 1 rfl) ?_
          refine va_get (D := (dC, dI)) (ci := 0) (v := .int (zb_La b)) (C := RzB) (T := TzB) (N := 9) hx hb hz inzB hown hK hP 0 rfl rfl 7 (by decide) (hz _ zi_93) (fun _ h9 => h9) rfl dz_B_tellAlarms_45 ?_
          refine lv_if_ne (tgt := 72) hx hb dz_B_tellAlarms_48 (by decide) (fun c_26 => ?_) (fun c_26 => ?_)
          · refine lv_iload_n hx hb dz_B_tellAlarms_72 rfl (lv_at hl 0 rfl) ?_
            have hE_27 : zb_tell b p1 = (0, b) := by simp only [zb_tell, if_neg c_2, if_pos c_12, if_pos c_22, if_neg c_24, if_neg c_26]
            exact W.iret (v := 0) hx hb hr (fun t ht hW => ⟨⟨_, (), rfl, by show 0 = (zb_tell b p1).1; rw [hE_27], by show va_P (dC, dI) vwCl (zb_W h0 ((zb_tell b p1).2)) t.heap; rw [ht, hE_27]; exact hP⟩, hS.F ht⟩) hS.2.2 dz_B_tellAlarms_73
          · refine lv_lload_n hx hb dz_B_tellAlarms_51 rfl (lv_at hl 2 rfl) ?_
            refine lv_aload_n hx hb dz_B_tellAlarms_52 rfl (lv_at hl 1 rfl) ?_
            refine va_get (D := (dC, dI)) (ci := 0) (v := .long (zb_Ls b)) (C := RzB) (T := TzB) (N := 9) hx hb hz inzB hown hK hP 0 rfl rfl 6 (by decide) (hz _ zi_92) (fun _ h9 => h9) rfl dz_B_tellAlarms_53 ?_
            refine lv_lsub hx hb dz_B_tellAlarms_56 ?_
            refine lv_ldc2 (v := 604800) hx hb hown (hz _ zi_159) dz_B_tellAlarms_57 ?_
            refine W.lcmp hx hb dz_B_tellAlarms_60 ?_
            refine lv_if_lt (tgt := 72) hx hb dz_B_tellAlarms_61 (by decide) (fun c_28 => ?_) (fun c_28 => ?_)
            · refine lv_iload_n hx hb dz_B_tellAlarms_72 rfl (lv_at hl 0 rfl) ?_
              have hE_29 : zb_tell b p1 = (0, b) := by simp only [zb_tell, if_neg c_2, if_pos c_12, if_pos c_22, if_neg c_24, if_pos c_26, if_pos c_28]
              exact W.iret (v := 0) hx hb hr (fun t ht hW => ⟨⟨_, (), rfl, by show 0 = (zb_tell b p1).1; rw [hE_29], by show va_P (dC, dI) vwCl (zb_W h0 ((zb_tell b p1).2)) t.heap; rw [ht, hE_29]; exact hP⟩, hS.F ht⟩) hS.2.2 dz_B_tellAlarms_73
            · refine lv_aload_n hx hb dz_B_tellAlarms_64 rfl (lv_at hl 1 rfl) ?_
              refine lv_iconst (v := 1) hx hb dz_B_tellAlarms_65 (by decide) ?_
              refine va_put (D := (dC, dI)) (ci := 0) (v := .int 1) (ty := .boolean) (C := RzB) (T := TzB) (N := 9) hx hb hz inzB tyzB tyzB_ok nmzB hown hK hP hD hS 0 rfl rfl 7 (by decide) (hz _ zi_93) (fun _ h9 => h9) rfl (by decide +kernel) rfl rfl (Nat.le_of_ble_eq_true rfl) dz_B_tellAlarms_66 (fun H locs hP hD hS => ?_)
              obtain ⟨S_30, eS_30⟩ : ∃ z, z = zb_sLa b 1 := ⟨_, rfl⟩
              have hP : va_P (dC, dI) vwCl (zb_W h0 S_30) H := by rw [eS_30]; exact hP
              have hD : va_D A (zb_W h0 S_30) := by rw [eS_30]; exact hD
              refine lv_iinc (v := 0 + 1) (lv' := [(3, .int (0 + 1)), (0, .ref h0), (1, .long p1)]) hx hb dz_B_tellAlarms_69 hl (k := 0) rfl rfl (by decide) rfl (fun ls hl => ?_)
              refine lv_iload_n hx hb dz_B_tellAlarms_72 rfl (lv_at hl 0 rfl) ?_
              subst eS_30
              have hE_31 : zb_tell b p1 = (0 + 1, zb_sLa b 1) := by simp only [zb_tell, if_neg c_2, if_pos c_12, if_pos c_22, if_neg c_24, if_pos c_26, if_neg c_28]
              exact W.iret (v := 0 + 1) hx hb hr (fun t ht hW => ⟨⟨_, (), rfl, by show 0 + 1 = (zb_tell b p1).1; rw [hE_31], by show va_P (dC, dI) vwCl (zb_W h0 ((zb_tell b p1).2)) t.heap; rw [ht, hE_31]; exact hP⟩, hS.F ht⟩) hS.2.2 dz_B_tellAlarms_73
      · refine lv_aload_n hx hb dz_B_tellAlarms_29 rfl (lv_at hl 1 rfl) ?_
        refine lv_iconst (v := 1) hx hb dz_B_tellAlarms_30 (by decide) ?_
        refine va_put (D := (dC, dI)) (ci := 0) (v := .int 1) (ty := .boolean) (C := RzB) (T := TzB) (N := 9) hx hb hz inzB tyzB tyzB_ok nmzB hown hK hP hD hS 0 rfl rfl 3 (by decide) (hz _ zi_89) (fun _ h9 => h9) rfl (by decide +kernel) rfl rfl (Nat.le_of_ble_eq_true rfl) dz_B_tellAlarms_31 (fun H locs hP hD hS => ?_)
        obtain ⟨S_32, eS_32⟩ : ∃ z, z = zb_sTo b 1 := ⟨_, rfl⟩
        have hP : va_P (dC, dI) vwCl (zb_W h0 S_32) H := by rw [eS_32]; exact hP
        have hD : va_D A (zb_W h0 S_32) := by rw [eS_32]; exact hD
        refine lv_iinc (v := 0 + 1) (lv' := [(3, .int (0 + 1)), (0, .ref h0), (1, .long p1)]) hx hb dz_B_tellAlarms_34 hl (k := 0) rfl rfl (by decide) rfl (fun ls hl => ?_)
        refine lv_aload_n hx hb dz_B_tellAlarms_37 rfl (lv_at hl 1 rfl) ?_
        refine vp_callSi (va_Run.run (va_runV (As := []) (rest := []) ⟨hx, hb, hml, hown, hz⟩ (ct_B_lies l dC dI cq ci h0 S_32) (cwV 0 hz (zw_gV zi_156 zi_157 zi_12 zi_36 zi_158) rfl rfl rfl (by decide +kernel) ⟨Nat.le_of_ble_eq_true rfl, Nat.le_of_ble_eq_true rfl⟩) (zw_preRV zw_ns_ok hP hK hN (ci := 0) rfl (k := 0) rfl) rfl rfl hl.1 rfl (lv_room (Nat.le_of_ble_eq_true rfl)) dz_B_tellAlarms_38 ⟨Nat.le_of_ble_eq_true rfl, Nat.le_of_ble_eq_true rfl⟩)) (fun r_33 hr_33 => ?_)
        have hr_33 : r_33 = zb_lies S_32 := hr_33
        subst hr_33
        refine lv_if_eq (tgt := 72) hx hb dz_B_tellAlarms_41 (by decide) (fun c_34 => ?_) (fun c_34 => ?_)
        · refine lv_iload_n hx hb dz_B_tellAlarms_72 rfl (lv_at hl 0 rfl) ?_
          subst eS_32
          have hE_35 : zb_tell b p1 = (0 + 1, zb_sTo b 1) := by simp only [zb_tell, if_neg c_2, if_pos c_12, if_neg c_22, if_pos c_34]
          exact W.iret (v := 0 + 1) hx hb hr (fun t ht hW => ⟨⟨_, (), rfl, by show 0 + 1 = (zb_tell b p1).1; rw [hE_35], by show va_P (dC, dI) vwCl (zb_W h0 ((zb_tell b p1).2)) t.heap; rw [ht, hE_35]; exact hP⟩, hS.F ht⟩) hS.2.2 dz_B_tellAlarms_73
        · refine lv_aload_n hx hb dz_B_tellAlarms_44 rfl (lv_at hl 1 rfl) ?_
          refine va_get (D := (dC, dI)) (ci := 0) (v := .int (zb_La S_32)) (C := RzB) (T := TzB) (N := 9) hx hb hz inzB hown hK hP 0 rfl rfl 7 (by decide) (hz _ zi_93) (fun _ h9 => h9) rfl dz_B_tellAlarms_45 ?_
          refine lv_if_ne (tgt := 72) hx hb dz_B_tellAlarms_48 (by decide) (fun c_36 => ?_) (fun c_36 => ?_)
          · refine lv_iload_n hx hb dz_B_tellAlarms_72 rfl (lv_at hl 0 rfl) ?_
            subst eS_32
            have hE_37 : zb_tell b p1 = (0 + 1, zb_sTo b 1) := by simp only [zb_tell, if_neg c_2, if_pos c_12, if_neg c_22, if_neg c_34, if_neg c_36]
            exact W.iret (v := 0 + 1) hx hb hr (fun t ht hW => ⟨⟨_, (), rfl, by show 0 + 1 = (zb_tell b p1).1; rw [hE_37], by show va_P (dC, dI) vwCl (zb_W h0 ((zb_tell b p1).2)) t.heap; rw [ht, hE_37]; exact hP⟩, hS.F ht⟩) hS.2.2 dz_B_tellAlarms_73
          · refine lv_lload_n hx hb dz_B_tellAlarms_51 rfl (lv_at hl 2 rfl) ?_
            refine lv_aload_n hx hb dz_B_tellAlarms_52 rfl (lv_at hl 1 rfl) ?_
            refine va_get (D := (dC, dI)) (ci := 0) (v := .long (zb_Ls S_32)) (C := RzB) (T := TzB) (N := 9) hx hb hz inzB hown hK hP 0 rfl rfl 6 (by decide) (hz _ zi_92) (fun _ h9 => h9) rfl dz_B_tellAlarms_53 ?_
            refine lv_lsub hx hb dz_B_tellAlarms_56 ?_
            refine lv_ldc2 (v := 604800) hx hb hown (hz _ zi_159) dz_B_tellAlarms_57 ?_
            refine W.lcmp hx hb dz_B_tellAlarms_60 ?_
            refine lv_if_lt (tgt := 72) hx hb dz_B_tellAlarms_61 (by decide) (fun c_38 => ?_) (fun c_38 => ?_)
            · refine lv_iload_n hx hb dz_B_tellAlarms_72 rfl (lv_at hl 0 rfl) ?_
              subst eS_32
              have hE_39 : zb_tell b p1 = (0 + 1, zb_sTo b 1) := by simp only [zb_tell, if_neg c_2, if_pos c_12, if_neg c_22, if_neg c_34, if_pos c_36, if_pos c_38]
              exact W.iret (v := 0 + 1) hx hb hr (fun t ht hW => ⟨⟨_, (), rfl, by show 0 + 1 = (zb_tell b p1).1; rw [hE_39], by show va_P (dC, dI) vwCl (zb_W h0 ((zb_tell b p1).2)) t.heap; rw [ht, hE_39]; exact hP⟩, hS.F ht⟩) hS.2.2 dz_B_tellAlarms_73
            · refine lv_aload_n hx hb dz_B_tellAlarms_64 rfl (lv_at hl 1 rfl) ?_
              refine lv_iconst (v := 1) hx hb dz_B_tellAlarms_65 (by decide) ?_
              refine va_put (D := (dC, dI)) (ci := 0) (v := .int 1) (ty := .boolean) (C := RzB) (T := TzB) (N := 9) hx hb hz inzB tyzB tyzB_ok nmzB hown hK hP hD hS 0 rfl rfl 7 (by decide) (hz _ zi_93) (fun _ h9 => h9) rfl (by decide +kernel) rfl rfl (Nat.le_of_ble_eq_true rfl) dz_B_tellAlarms_66 (fun H locs hP hD hS => ?_)
              obtain ⟨S_40, eS_40⟩ : ∃ z, z = zb_sLa S_32 1 := ⟨_, rfl⟩
              have hP : va_P (dC, dI) vwCl (zb_W h0 S_40) H := by rw [eS_40]; exact hP
              have hD : va_D A (zb_W h0 S_40) := by rw [eS_40]; exact hD
              refine lv_iinc (v := (0 + 1) + 1) (lv' := [(3, .int ((0 + 1) + 1)), (0, .ref h0), (1, .long p1)]) hx hb dz_B_tellAlarms_69 hl (k := 0) rfl rfl (by decide) rfl (fun ls hl => ?_)
              refine lv_iload_n hx hb dz_B_tellAlarms_72 rfl (lv_at hl 0 rfl) ?_
              subst eS_32 eS_40
              have hE_41 : zb_tell b p1 = ((0 + 1) + 1, zb_sLa (zb_sTo b 1) 1) := by simp only [zb_tell, if_neg c_2, if_pos c_12, if_neg c_22, if_neg c_34, if_pos c_36, if_neg c_38]
              exact W.iret (v := (0 + 1) + 1) hx hb hr (fun t ht hW => ⟨⟨_, (), rfl, by show (0 + 1) + 1 = (zb_tell b p1).1; rw [hE_41], by show va_P (dC, dI) vwCl (zb_W h0 ((zb_tell b p1).2)) t.heap; rw [ht, hE_41]; exact hP⟩, hS.F ht⟩) hS.2.2 dz_B_tellAlarms_73
set_option maxHeartbeats 4000000 in
set_option maxRecDepth 100000 in
theorem ct_B_init (l : Launch) (dC : Nat → ClassId) (dI : Nat → Nat → Nat) (cq ci : ClassId) (h0 : Nat) (b : zb_T) (sz : Nat) (p1 : Int32) : Met l yz_B_init wz_B_init (zw_room 1 0 0) (zw_U zw_ns (dC, dI) vwCl (zl_tys cq ci) [.ref h0, .int p1] (zb_W h0 b) sz) (va_Qv (fun _ : Unit => True) (fun (_ : Unit) (t : State) => va_P (dC, dI) vwCl (zb_W h0 (zb_init b p1)) t.heap) (va_A (zb_W h0 b) sz)) 0 0 (va_A (zb_W h0 b) sz) := by
  refine Met.ofW (cc := cz_B_init) (maxL := 2) (ret := none) (by decide) rfl ?_
  intro p e s m args below meth c s₁ B hml hv
  obtain ⟨rfl, hsz, hP, hK, hD0, hN⟩ := hv
  have hx := B.exec
  have hb := B.bytes
  have hr := B.returns
  have hts := atoms_spec (ws := wz_B_init) B.pre
  have hz : ∀ w ∈ zw_T, w.before ([.ref h0, .int p1] : List Value).toArray s = true := fun w h => hts w (List.mem_cons_of_mem _ h)
  have hown : s.vm.findClass RzB = some m.cls := findClass_of_methodNamed B.named
  have hlocks := B.notSynchronized
  have hin : meth.name = "<init>" := (name_of_methodNamed B.named B.method).1
  subst hsz
  have hD := hD0.self (sz := s.heap.size)
  generalize hAe : va_A (zb_W h0 b) s.heap.size = A at hD ⊢
  have hA : ∀ q : Nat, s.heap.size ≤ q → A q := fun q h => by rw [← hAe]; exact Or.inr h
  have hS : va_S A s.heap s.heap [] := va_S.rf
  have hl := lv_entry ([.ref h0, .int p1]) (n := 2) (Nat.le_of_ble_eq_true rfl)
  rw [lg_entry_eq]
  generalize (lg_sl ([.ref h0, .int p1]) ++ List.replicate (2 - (lg_sl ([.ref h0, .int p1])).length) Slot.unset).toArray = ls at hl ⊢
  have hl : lv_has ls 2 [(0, .ref h0), (1, .int p1)] := hl
  refine lv_aload_n hx hb dz_B_init_0 rfl (lv_at hl 0 rfl) ?_
  refine W.objInit hx hb hown (hz _ zi_85) (hz _ zi_44) (hz _ zi_45) rfl (by rw [hml]; exact hl.1) rfl dz_B_init_1 (Nat.le_of_ble_eq_true rfl) (Nat.le_of_ble_eq_true rfl) ?_
  refine W.eq (g2 := F0 m 4 ls []) rfl ?_
  refine lv_aload_n hx hb dz_B_init_4 rfl (lv_at hl 0 rfl) ?_
  refine lv_iconst (v := 0) hx hb dz_B_init_5 (by decide) ?_
  refine va_put (D := (dC, dI)) (ci := 0) (v := .int 0) (ty := .int) (C := RzB) (T := TzB) (N := 9) hx hb hz inzB tyzB tyzB_ok nmzB hown hK hP hD hS 0 rfl rfl 1 (by decide) (hz _ zi_87) (fun _ h9 => h9) rfl (by decide +kernel) rfl rfl (Nat.le_of_ble_eq_true rfl) dz_B_init_6 (fun H locs hP hD hS => ?_)
  obtain ⟨S_1, eS_1⟩ : ∃ z, z = zb_sDr b 0 := ⟨_, rfl⟩
  have hP : va_P (dC, dI) vwCl (zb_W h0 S_1) H := by rw [eS_1]; exact hP
  have hD : va_D A (zb_W h0 S_1) := by rw [eS_1]; exact hD
  refine lv_aload_n hx hb dz_B_init_9 rfl (lv_at hl 0 rfl) ?_
  refine lv_lconst (v := 0) hx hb dz_B_init_10 (by decide) ?_
  refine va_put (D := (dC, dI)) (ci := 0) (v := .long 0) (ty := .long) (C := RzB) (T := TzB) (N := 9) hx hb hz inzB tyzB tyzB_ok nmzB hown hK hP hD hS 0 rfl rfl 2 (by decide) (hz _ zi_88) (fun _ h9 => h9) rfl (by decide +kernel) rfl rfl (Nat.le_of_ble_eq_true rfl) dz_B_init_11 (fun H locs hP hD hS => ?_)
  obtain ⟨S_2, eS_2⟩ : ∃ z, z = zb_sOs S_1 0 := ⟨_, rfl⟩
  have hP : va_P (dC, dI) vwCl (zb_W h0 S_2) H := by rw [eS_2]; exact hP
  have hD : va_D A (zb_W h0 S_2) := by rw [eS_2]; exact hD
  refine lv_aload_n hx hb dz_B_init_14 rfl (lv_at hl 0 rfl) ?_
  refine lv_iconst (v := 0) hx hb dz_B_init_15 (by decide) ?_
  refine va_put (D := (dC, dI)) (ci := 0) (v := .int 0) (ty := .boolean) (C := RzB) (T := TzB) (N := 9) hx hb hz inzB tyzB tyzB_ok nmzB hown hK hP hD hS 0 rfl rfl 3 (by decide) (hz _ zi_89) (fun _ h9 => h9) rfl (by decide +kernel) rfl rfl (Nat.le_of_ble_eq_true rfl) dz_B_init_16 (fun H locs hP hD hS => ?_)
  obtain ⟨S_3, eS_3⟩ : ∃ z, z = zb_sTo S_2 0 := ⟨_, rfl⟩
  have hP : va_P (dC, dI) vwCl (zb_W h0 S_3) H := by rw [eS_3]; exact hP
  have hD : va_D A (zb_W h0 S_3) := by rw [eS_3]; exact hD
  refine lv_aload_n hx hb dz_B_init_19 rfl (lv_at hl 0 rfl) ?_
  refine lv_iconst (v := 0) hx hb dz_B_init_20 (by decide) ?_
  refine va_put (D := (dC, dI)) (ci := 0) (v := .int 0) (ty := .int) (C := RzB) (T := TzB) (N := 9) hx hb hz inzB tyzB tyzB_ok nmzB hown hK hP hD hS 0 rfl rfl 4 (by decide) (hz _ zi_90) (fun _ h9 => h9) rfl (by decide +kernel) rfl rfl (Nat.le_of_ble_eq_true rfl) dz_B_init_21 (fun H locs hP hD hS => ?_)
  obtain ⟨S_4, eS_4⟩ : ∃ z, z = zb_sIt S_3 0 := ⟨_, rfl⟩
  have hP : va_P (dC, dI) vwCl (zb_W h0 S_4) H := by rw [eS_4]; exact hP
  have hD : va_D A (zb_W h0 S_4) := by rw [eS_4]; exact hD
  refine lv_aload_n hx hb dz_B_init_24 rfl (lv_at hl 0 rfl) ?_
  refine lv_iconst (v := -1) hx hb dz_B_init_25 (by decide) ?_
  refine va_put (D := (dC, dI)) (ci := 0) (v := .int (-1)) (ty := .int) (C := RzB) (T := TzB) (N := 9) hx hb hz inzB tyzB tyzB_ok nmzB hown hK hP hD hS 0 rfl rfl 5 (by decide) (hz _ zi_91) (fun _ h9 => h9) rfl (by decide +kernel) rfl rfl (Nat.le_of_ble_eq_true rfl) dz_B_init_26 (fun H locs hP hD hS => ?_)
  obtain ⟨S_5, eS_5⟩ : ∃ z, z = zb_sCo S_4 (-1) := ⟨_, rfl⟩
  have hP : va_P (dC, dI) vwCl (zb_W h0 S_5) H := by rw [eS_5]; exact hP
  have hD : va_D A (zb_W h0 S_5) := by rw [eS_5]; exact hD
  refine lv_aload_n hx hb dz_B_init_29 rfl (lv_at hl 0 rfl) ?_
  refine lv_lconst (v := 0) hx hb dz_B_init_30 (by decide) ?_
  refine va_put (D := (dC, dI)) (ci := 0) (v := .long 0) (ty := .long) (C := RzB) (T := TzB) (N := 9) hx hb hz inzB tyzB tyzB_ok nmzB hown hK hP hD hS 0 rfl rfl 6 (by decide) (hz _ zi_92) (fun _ h9 => h9) rfl (by decide +kernel) rfl rfl (Nat.le_of_ble_eq_true rfl) dz_B_init_31 (fun H locs hP hD hS => ?_)
  obtain ⟨S_6, eS_6⟩ : ∃ z, z = zb_sLs S_5 0 := ⟨_, rfl⟩
  have hP : va_P (dC, dI) vwCl (zb_W h0 S_6) H := by rw [eS_6]; exact hP
  have hD : va_D A (zb_W h0 S_6) := by rw [eS_6]; exact hD
  refine lv_aload_n hx hb dz_B_init_34 rfl (lv_at hl 0 rfl) ?_
  refine lv_iconst (v := 0) hx hb dz_B_init_35 (by decide) ?_
  refine va_put (D := (dC, dI)) (ci := 0) (v := .int 0) (ty := .boolean) (C := RzB) (T := TzB) (N := 9) hx hb hz inzB tyzB tyzB_ok nmzB hown hK hP hD hS 0 rfl rfl 7 (by decide) (hz _ zi_93) (fun _ h9 => h9) rfl (by decide +kernel) rfl rfl (Nat.le_of_ble_eq_true rfl) dz_B_init_36 (fun H locs hP hD hS => ?_)
  obtain ⟨S_7, eS_7⟩ : ∃ z, z = zb_sLa S_6 0 := ⟨_, rfl⟩
  have hP : va_P (dC, dI) vwCl (zb_W h0 S_7) H := by rw [eS_7]; exact hP
  have hD : va_D A (zb_W h0 S_7) := by rw [eS_7]; exact hD
  refine lv_aload_n hx hb dz_B_init_39 rfl (lv_at hl 0 rfl) ?_
  refine lv_lconst (v := 0) hx hb dz_B_init_40 (by decide) ?_
  refine va_put (D := (dC, dI)) (ci := 0) (v := .long 0) (ty := .long) (C := RzB) (T := TzB) (N := 9) hx hb hz inzB tyzB tyzB_ok nmzB hown hK hP hD hS 0 rfl rfl 8 (by decide) (hz _ zi_94) (fun _ h9 => h9) rfl (by decide +kernel) rfl rfl (Nat.le_of_ble_eq_true rfl) dz_B_init_41 (fun H locs hP hD hS => ?_)
  obtain ⟨S_8, eS_8⟩ : ∃ z, z = zb_sKe S_7 0 := ⟨_, rfl⟩
  have hP : va_P (dC, dI) vwCl (zb_W h0 S_8) H := by rw [eS_8]; exact hP
  have hD : va_D A (zb_W h0 S_8) := by rw [eS_8]; exact hD
  refine lv_aload_n hx hb dz_B_init_44 rfl (lv_at hl 0 rfl) ?_
  refine lv_iload_n hx hb dz_B_init_45 rfl (lv_at hl 1 rfl) ?_
  refine va_putF (D := (dC, dI)) (ci := 0) (v := .int p1) (ty := .int) (C := RzB) (T := TzB) (N := 9) hx hb hz inzB tyzB tyzB_ok nmzB hown hK hP hD hS 0 rfl rfl 0 (by decide) (hz _ zi_86) (fun _ h9 => h9) rfl hin rfl (by decide +kernel) rfl rfl (Nat.le_of_ble_eq_true rfl) dz_B_init_46 (fun H locs hP hD hS => ?_)
  obtain ⟨S_9, eS_9⟩ : ∃ z, z = zb_sSz S_8 p1 := ⟨_, rfl⟩
  have hP : va_P (dC, dI) vwCl (zb_W h0 S_9) H := by rw [eS_9]; exact hP
  have hD : va_D A (zb_W h0 S_9) := by rw [eS_9]; exact hD
  subst eS_1 eS_2 eS_3 eS_4 eS_5 eS_6 eS_7 eS_8 eS_9
  have hE_10 : zb_init b p1 = zb_sSz (zb_sKe (zb_sLa (zb_sLs (zb_sCo (zb_sIt (zb_sTo (zb_sOs (zb_sDr b 0) 0) 0) 0) (-1)) 0) 0) 0) p1 := by simp only [zb_init]
  exact W.vret hx hb hr (fun t ht hW => ⟨⟨(), rfl, trivial, by show va_P (dC, dI) vwCl (zb_W h0 (zb_init b p1)) t.heap; rw [ht, hE_10]; exact hP⟩, hS.F ht⟩) hS.2.2 dz_B_init_49
end
section
set_option maxHeartbeats 4000000 in
set_option maxRecDepth 100000 in
theorem ct_T_length (l : Launch) (dC : Nat → ClassId) (dI : Nat → Nat → Nat) (cq ci : ClassId) (h0 row : Nat) (q : zt_T) (hq : q.2 ≤ 200) : Met l yz_T_length wz_T_length (zw_room 0 0 0) (zw_R zw_ns (dC, dI) vwCl (zl_tys cq ci) [.ref h0] (zt_W ci h0 row q)) (vp_Si (fun r => r = zt_length q)) 0 0 (fun _ => False) := by
  refine Met.ofW (cc := cz_T_length) (maxL := 1) (ret := (some .int)) (by decide) rfl ?_
  intro p e s m args below meth c s₁ B hml hv
  obtain ⟨rfl, hP, hK, hN⟩ := hv
  have hx := B.exec
  have hb := B.bytes
  have hr := B.returns
  have hts := atoms_spec (ws := wz_T_length) B.pre
  have hz : ∀ w ∈ zw_T, w.before ([.ref h0] : List Value).toArray s = true := fun w h => hts w (List.mem_cons_of_mem _ h)
  have hown : s.vm.findClass RzT = some m.cls := findClass_of_methodNamed B.named
  have hlocks := B.notSynchronized
  have hl := lv_entry ([.ref h0]) (n := 1) (Nat.le_of_ble_eq_true rfl)
  rw [lg_entry_eq]
  generalize (lg_sl ([.ref h0]) ++ List.replicate (1 - (lg_sl ([.ref h0])).length) Slot.unset).toArray = ls at hl ⊢
  have hl : lv_has ls 1 [(0, .ref h0)] := hl
  refine lv_aload_n hx hb dz_T_length_0 rfl (lv_at hl 0 rfl) ?_
  refine va_get (D := (dC, dI)) (ci := 1) (v := .int (nI q.2)) (C := RzT) (T := TzT) (N := 2) hx hb hz inzT hown hK hP 0 rfl rfl 1 (by decide) (hz _ zi_53) (fun _ h9 => h9) rfl dz_T_length_1 ?_
  exact W.iret (v := nI q.2) hx hb hr (fun t ht hW => ⟨_, rfl, by simp only [zt_length], ht⟩) (fun _ h => by cases h) dz_T_length_4
set_option maxHeartbeats 4000000 in
set_option maxRecDepth 100000 in
theorem ct_T_append (l : Launch) (dC : Nat → ClassId) (dI : Nat → Nat → Nat) (cq ci : ClassId) (h0 row : Nat) (q : zt_T) (hq : q.2 ≤ 200) (sz : Nat) (p1 : Int32) : Met l yz_T_append wz_T_append (zw_room 0 0 0) (zw_U zw_ns (dC, dI) vwCl (zl_tys cq ci) [.ref h0, .int p1] (zt_W ci h0 row q) sz) (va_Qi (fun (r : Int32) (_ : Unit) => r = (zt_append q p1).1) (fun (_ : Unit) (t : State) => va_P (dC, dI) vwCl (zt_W ci h0 row ((zt_append q p1).2)) t.heap) (va_A (zt_W ci h0 row q) sz)) 0 0 (va_A (zt_W ci h0 row q) sz) := by
  refine Met.ofW (cc := cz_T_append) (maxL := 2) (ret := (some .boolean)) (by decide) rfl ?_
  intro p e s m args below meth c s₁ B hml hv
  obtain ⟨rfl, hsz, hP, hK, hD0, hN⟩ := hv
  have hx := B.exec
  have hb := B.bytes
  have hr := B.returns
  have hts := atoms_spec (ws := wz_T_append) B.pre
  have hz : ∀ w ∈ zw_T, w.before ([.ref h0, .int p1] : List Value).toArray s = true := fun w h => hts w (List.mem_cons_of_mem _ h)
  have hown : s.vm.findClass RzT = some m.cls := findClass_of_methodNamed B.named
  have hlocks := B.notSynchronized
  subst hsz
  have hD := hD0.self (sz := s.heap.size)
  generalize hAe : va_A (zt_W ci h0 row q) s.heap.size = A at hD ⊢
  have hA : ∀ q : Nat, s.heap.size ≤ q → A q := fun q h => by rw [← hAe]; exact Or.inr h
  have hS : va_S A s.heap s.heap [] := va_S.rf
  have hl := lv_entry ([.ref h0, .int p1]) (n := 2) (Nat.le_of_ble_eq_true rfl)
  rw [lg_entry_eq]
  generalize (lg_sl ([.ref h0, .int p1]) ++ List.replicate (2 - (lg_sl ([.ref h0, .int p1])).length) Slot.unset).toArray = ls at hl ⊢
  have hl : lv_has ls 2 [(0, .ref h0), (1, .int p1)] := hl
  refine lv_aload_n hx hb dz_T_append_0 rfl (lv_at hl 0 rfl) ?_
  refine va_get (D := (dC, dI)) (ci := 1) (v := .int (nI q.2)) (C := RzT) (T := TzT) (N := 2) hx hb hz inzT hown hK hP 0 rfl rfl 1 (by decide) (hz _ zi_53) (fun _ h9 => h9) rfl dz_T_append_1 ?_
  refine lv_sipush (v := 200) hx hb dz_T_append_4 (by decide) ?_
  refine lv_icmp_lt (tgt := 12) hx hb dz_T_append_7 (by decide) (fun c_1 => ?_) (fun c_1 => ?_)
  · refine lv_aload_n hx hb dz_T_append_12 rfl (lv_at hl 0 rfl) ?_
    refine va_get (D := (dC, dI)) (ci := 1) (v := .ref row) (C := RzT) (T := TzT) (N := 2) hx hb hz inzT hown hK hP 0 rfl rfl 0 (by decide) (hz _ zi_52) (fun _ h9 => h9) rfl dz_T_append_13 ?_
    refine lv_aload_n hx hb dz_T_append_16 rfl (lv_at hl 0 rfl) ?_
    refine va_get (D := (dC, dI)) (ci := 1) (v := .int (nI q.2)) (C := RzT) (T := TzT) (N := 2) hx hb hz inzT hown hK hP 0 rfl rfl 1 (by decide) (hz _ zi_53) (fun _ h9 => h9) rfl dz_T_append_17 ?_
    refine lv_iload_n hx hb dz_T_append_20 rfl (lv_at hl 1 rfl) ?_
    have hin_2 : vp_in (nI q.2) 200 := vp_in_nI (zt_lt200 hq c_1) (by omega)
    refine va_iast hx hb hK hP hD hS 1 1 rfl rfl hin_2 dz_T_append_21 (fun H locs hP hD hS => ?_)
    obtain ⟨S_3, eS_3⟩ : ∃ z, z = (upd q.1 (nI q.2).toNatClampNeg p1, q.2) := ⟨_, rfl⟩
    have hP : va_P (dC, dI) vwCl (zt_W ci h0 row S_3) H := by rw [eS_3]; exact hP
    have hD : va_D A (zt_W ci h0 row S_3) := by rw [eS_3]; exact hD
    refine lv_aload_n hx hb dz_T_append_22 rfl (lv_at hl 0 rfl) ?_
    refine lv_dup hx hb dz_T_append_23 rfl ?_
    refine va_get (D := (dC, dI)) (ci := 1) (v := .int (nI S_3.2)) (C := RzT) (T := TzT) (N := 2) hx hb hz inzT hown hK hP 0 rfl rfl 1 (by decide) (hz _ zi_53) (fun _ h9 => h9) rfl dz_T_append_24 ?_
    refine lv_iconst (v := 1) hx hb dz_T_append_27 (by decide) ?_
    refine lv_iadd hx hb dz_T_append_28 ?_
    refine W.eq (g2 := F0 m 29 ls [.int (nI (S_3.2 + 1)), .ref h0]) (congrArg (fun z => F0 m 29 ls (.int z :: [.ref h0])) (nI_1 _)) ?_
    refine va_put (D := (dC, dI)) (ci := 1) (v := .int (nI (S_3.2 + 1))) (ty := .int) (C := RzT) (T := TzT) (N := 2) hx hb hz inzT tyzT tyzT_ok nmzT hown hK hP hD hS 0 rfl rfl 1 (by decide) (hz _ zi_53) (fun _ h9 => h9) rfl (by decide +kernel) rfl rfl (Nat.le_of_ble_eq_true rfl) dz_T_append_29 (fun H locs hP hD hS => ?_)
    obtain ⟨S_4, eS_4⟩ : ∃ z, z = (S_3.1, (S_3.2 + 1)) := ⟨_, rfl⟩
    have hP : va_P (dC, dI) vwCl (zt_W ci h0 row S_4) H := by rw [eS_4]; exact hP
    have hD : va_D A (zt_W ci h0 row S_4) := by rw [eS_4]; exact hD
    refine lv_iconst (v := 1) hx hb dz_T_append_32 (by decide) ?_
    subst eS_3 eS_4
    have hE_5 : zt_append q p1 = (1, ((upd q.1 (nI q.2).toNatClampNeg p1, q.2).1, ((upd q.1 (nI q.2).toNatClampNeg p1, q.2).2 + 1))) := by simp only [zt_append, if_pos c_1]
    exact W.zret (v := 1) (ty := .boolean) hx hb hr rfl (fun t ht hW => ⟨⟨_, (), rfl, by show 1 = (zt_append q p1).1; rw [hE_5], by show va_P (dC, dI) vwCl (zt_W ci h0 row ((zt_append q p1).2)) t.heap; rw [ht, hE_5]; exact hP⟩, hS.F ht⟩) hS.2.2 dz_T_append_33
  · refine lv_iconst (v := 0) hx hb dz_T_append_10 (by decide) ?_
    have hE_6 : zt_append q p1 = (0, q) := by simp only [zt_append, if_neg c_1]
    exact W.zret (v := 0) (ty := .boolean) hx hb hr rfl (fun t ht hW => ⟨⟨_, (), rfl, by show 0 = (zt_append q p1).1; rw [hE_6], by show va_P (dC, dI) vwCl (zt_W ci h0 row ((zt_append q p1).2)) t.heap; rw [ht, hE_6]; exact hP⟩, hS.F ht⟩) hS.2.2 dz_T_append_11
set_option maxHeartbeats 4000000 in
set_option maxRecDepth 100000 in
theorem ct_T_at (l : Launch) (dC : Nat → ClassId) (dI : Nat → Nat → Nat) (cq ci : ClassId) (h0 row : Nat) (q : zt_T) (hq : q.2 ≤ 200) (p1 : Int32) : Met l yz_T_at wz_T_at (zw_room 0 0 0) (zw_R zw_ns (dC, dI) vwCl (zl_tys cq ci) [.ref h0, .int p1] (zt_W ci h0 row q)) (vp_Si (fun r => r = zt_at q p1)) 0 0 (fun _ => False) := by
  refine Met.ofW (cc := cz_T_at) (maxL := 2) (ret := (some .int)) (by decide) rfl ?_
  intro p e s m args below meth c s₁ B hml hv
  obtain ⟨rfl, hP, hK, hN⟩ := hv
  have hx := B.exec
  have hb := B.bytes
  have hr := B.returns
  have hts := atoms_spec (ws := wz_T_at) B.pre
  have hz : ∀ w ∈ zw_T, w.before ([.ref h0, .int p1] : List Value).toArray s = true := fun w h => hts w (List.mem_cons_of_mem _ h)
  have hown : s.vm.findClass RzT = some m.cls := findClass_of_methodNamed B.named
  have hlocks := B.notSynchronized
  have hl := lv_entry ([.ref h0, .int p1]) (n := 2) (Nat.le_of_ble_eq_true rfl)
  rw [lg_entry_eq]
  generalize (lg_sl ([.ref h0, .int p1]) ++ List.replicate (2 - (lg_sl ([.ref h0, .int p1])).length) Slot.unset).toArray = ls at hl ⊢
  have hl : lv_has ls 2 [(0, .ref h0), (1, .int p1)] := hl
  refine lv_iload_n hx hb dz_T_at_0 rfl (lv_at hl 1 rfl) ?_
  refine lv_if_lt (tgt := 21) hx hb dz_T_at_1 (by decide) (fun c_1 => ?_) (fun c_1 => ?_)
  · refine lv_iconst (v := -1) hx hb dz_T_at_21 (by decide) ?_
    exact W.iret (v := (-1)) hx hb hr (fun t ht hW => ⟨_, rfl, by simp only [zt_at, if_pos c_1], ht⟩) (fun _ h => by cases h) dz_T_at_22
  · refine lv_iload_n hx hb dz_T_at_4 rfl (lv_at hl 1 rfl) ?_
    refine lv_aload_n hx hb dz_T_at_5 rfl (lv_at hl 0 rfl) ?_
    refine va_get (D := (dC, dI)) (ci := 1) (v := .int (nI q.2)) (C := RzT) (T := TzT) (N := 2) hx hb hz inzT hown hK hP 0 rfl rfl 1 (by decide) (hz _ zi_53) (fun _ h9 => h9) rfl dz_T_at_6 ?_
    refine lv_icmp_ge (tgt := 21) hx hb dz_T_at_9 (by decide) (fun c_2 => ?_) (fun c_2 => ?_)
    · refine lv_iconst (v := -1) hx hb dz_T_at_21 (by decide) ?_
      exact W.iret (v := (-1)) hx hb hr (fun t ht hW => ⟨_, rfl, by simp only [zt_at, if_neg c_1, if_pos c_2], ht⟩) (fun _ h => by cases h) dz_T_at_22
    · refine lv_aload_n hx hb dz_T_at_12 rfl (lv_at hl 0 rfl) ?_
      refine va_get (D := (dC, dI)) (ci := 1) (v := .ref row) (C := RzT) (T := TzT) (N := 2) hx hb hz inzT hown hK hP 0 rfl rfl 0 (by decide) (hz _ zi_52) (fun _ h9 => h9) rfl dz_T_at_13 ?_
      refine lv_iload_n hx hb dz_T_at_16 rfl (lv_at hl 1 rfl) ?_
      have hin_3 : vp_in p1 200 := zt_in hq c_1 c_2
      refine va_iald hx hb hK hP 1 1 rfl rfl hin_3 dz_T_at_17 ?_
      refine lv_goto (tgt := 22) hx hb dz_T_at_18 (by decide) ?_
      exact W.iret (v := q.1 p1.toNatClampNeg) hx hb hr (fun t ht hW => ⟨_, rfl, by simp only [zt_at, if_neg c_1, if_neg c_2], ht⟩) (fun _ h => by cases h) dz_T_at_22
set_option maxHeartbeats 4000000 in
set_option maxRecDepth 100000 in
theorem ct_T_dropFirst (l : Launch) (dC : Nat → ClassId) (dI : Nat → Nat → Nat) (cq ci : ClassId) (h0 row : Nat) (q : zt_T) (hq : q.2 ≤ 200) (sz : Nat) (p1 : Int32) : Met l yz_T_dropFirst wz_T_dropFirst (zw_room 1 0 0) (zw_U zw_ns (dC, dI) vwCl (zl_tys cq ci) [.ref h0, .int p1] (zt_W ci h0 row q) sz) (va_Qv (fun _ : Unit => True) (fun (_ : Unit) (t : State) => va_P (dC, dI) vwCl (zt_W ci h0 row (zt_drop q p1)) t.heap) (va_A (zt_W ci h0 row q) sz)) 0 0 (va_A (zt_W ci h0 row q) sz) := by
  refine Met.ofW (cc := cz_T_dropFirst) (maxL := 2) (ret := none) (by decide) rfl ?_
  intro p e s m args below meth c s₁ B hml hv
  obtain ⟨rfl, hsz, hP, hK, hD0, hN⟩ := hv
  have hx := B.exec
  have hb := B.bytes
  have hr := B.returns
  have hts := atoms_spec (ws := wz_T_dropFirst) B.pre
  have hz : ∀ w ∈ zw_T, w.before ([.ref h0, .int p1] : List Value).toArray s = true := fun w h => hts w (List.mem_cons_of_mem _ h)
  have hown : s.vm.findClass RzT = some m.cls := findClass_of_methodNamed B.named
  have hlocks := B.notSynchronized
  subst hsz
  have hD := hD0.self (sz := s.heap.size)
  generalize hAe : va_A (zt_W ci h0 row q) s.heap.size = A at hD ⊢
  have hA : ∀ q : Nat, s.heap.size ≤ q → A q := fun q h => by rw [← hAe]; exact Or.inr h
  have hS : va_S A s.heap s.heap [] := va_S.rf
  have hl := lv_entry ([.ref h0, .int p1]) (n := 2) (Nat.le_of_ble_eq_true rfl)
  rw [lg_entry_eq]
  generalize (lg_sl ([.ref h0, .int p1]) ++ List.replicate (2 - (lg_sl ([.ref h0, .int p1])).length) Slot.unset).toArray = ls at hl ⊢
  have hl : lv_has ls 2 [(0, .ref h0), (1, .int p1)] := hl
  refine lv_iload_n hx hb dz_T_dropFirst_0 rfl (lv_at hl 1 rfl) ?_
  refine lv_iconst (v := 1) hx hb dz_T_dropFirst_1 (by decide) ?_
  refine lv_icmp_lt (tgt := 13) hx hb dz_T_dropFirst_2 (by decide) (fun c_1 => ?_) (fun c_1 => ?_)
  · have hE_2 : zt_drop q p1 = q := by simp only [zt_drop, if_pos c_1]
    exact W.vret hx hb hr (fun t ht hW => ⟨⟨(), rfl, trivial, by show va_P (dC, dI) vwCl (zt_W ci h0 row (zt_drop q p1)) t.heap; rw [ht, hE_2]; exact hP⟩, hS.F ht⟩) hS.2.2 dz_T_dropFirst_13
  · refine lv_iload_n hx hb dz_T_dropFirst_5 rfl (lv_at hl 1 rfl) ?_
    refine lv_aload_n hx hb dz_T_dropFirst_6 rfl (lv_at hl 0 rfl) ?_
    refine va_get (D := (dC, dI)) (ci := 1) (v := .int (nI q.2)) (C := RzT) (T := TzT) (N := 2) hx hb hz inzT hown hK hP 0 rfl rfl 1 (by decide) (hz _ zi_53) (fun _ h9 => h9) rfl dz_T_dropFirst_7 ?_
    refine lv_icmp_le (tgt := 14) hx hb dz_T_dropFirst_10 (by decide) (fun c_3 => ?_) (fun c_3 => ?_)
    · refine lv_aload_n hx hb dz_T_dropFirst_14 rfl (lv_at hl 0 rfl) ?_
      refine va_get (D := (dC, dI)) (ci := 1) (v := .ref row) (C := RzT) (T := TzT) (N := 2) hx hb hz inzT hown hK hP 0 rfl rfl 0 (by decide) (hz _ zi_52) (fun _ h9 => h9) rfl dz_T_dropFirst_15 ?_
      refine lv_iload_n hx hb dz_T_dropFirst_18 rfl (lv_at hl 1 rfl) ?_
      refine lv_aload_n hx hb dz_T_dropFirst_19 rfl (lv_at hl 0 rfl) ?_
      refine va_get (D := (dC, dI)) (ci := 1) (v := .ref row) (C := RzT) (T := TzT) (N := 2) hx hb hz inzT hown hK hP 0 rfl rfl 0 (by decide) (hz _ zi_52) (fun _ h9 => h9) rfl dz_T_dropFirst_20 ?_
      refine lv_iconst (v := 0) hx hb dz_T_dropFirst_23 (by decide) ?_
      refine lv_aload_n hx hb dz_T_dropFirst_24 rfl (lv_at hl 0 rfl) ?_
      refine va_get (D := (dC, dI)) (ci := 1) (v := .int (nI q.2)) (C := RzT) (T := TzT) (N := 2) hx hb hz inzT hown hK hP 0 rfl rfl 1 (by decide) (hz _ zi_53) (fun _ h9 => h9) rfl dz_T_dropFirst_25 ?_
      refine lv_iload_n hx hb dz_T_dropFirst_28 rfl (lv_at hl 1 rfl) ?_
      refine lv_isub hx hb dz_T_dropFirst_29 ?_
      obtain ⟨hd1, hd2, hd3⟩ := zt_copyok hq c_1 c_3
      refine va_copyi hx hb (hml.trans hl.1.symm) hown (hz _ zi_181) (hz _ zi_183) (hz _ zi_182) (hz _ zi_37) hK hP hD hS 1 1 1 1 (ty := .int) rfl rfl rfl rfl rfl hd1 (by decide) hd2 hd3.1 hd3.2 (fun _ _ => rfl) (Nat.le_of_ble_eq_true rfl) (Nat.le_of_ble_eq_true rfl) dz_T_dropFirst_30 (fun H locs hP hD hS => ?_)
      obtain ⟨S_4, eS_4⟩ : ∃ z, z = (va_cpy q.1 q.1 p1.toNatClampNeg (0 : Int32).toNatClampNeg ((nI q.2) - p1).toNatClampNeg, q.2) := ⟨_, rfl⟩
      have hP : va_P (dC, dI) vwCl (zt_W ci h0 row S_4) H := by rw [eS_4]; exact hP
      have hD : va_D A (zt_W ci h0 row S_4) := by rw [eS_4]; exact hD
      refine lv_aload_n hx hb dz_T_dropFirst_33 rfl (lv_at hl 0 rfl) ?_
      refine lv_dup hx hb dz_T_dropFirst_34 rfl ?_
      refine va_get (D := (dC, dI)) (ci := 1) (v := .int (nI S_4.2)) (C := RzT) (T := TzT) (N := 2) hx hb hz inzT hown hK hP 0 rfl rfl 1 (by decide) (hz _ zi_53) (fun _ h9 => h9) rfl dz_T_dropFirst_35 ?_
      refine lv_iload_n hx hb dz_T_dropFirst_38 rfl (lv_at hl 1 rfl) ?_
      refine lv_isub hx hb dz_T_dropFirst_39 ?_
      refine W.eq (g2 := F0 m 40 ls [.int (nI (S_4.2 - p1.toNatClampNeg)), .ref h0]) (congrArg (fun z => F0 m 40 ls (.int z :: [.ref h0])) (by rw [eS_4]; exact zt_sub (n := q.2) hq c_1 c_3)) ?_
      refine va_put (D := (dC, dI)) (ci := 1) (v := .int (nI (S_4.2 - p1.toNatClampNeg))) (ty := .int) (C := RzT) (T := TzT) (N := 2) hx hb hz inzT tyzT tyzT_ok nmzT hown hK hP hD hS 0 rfl rfl 1 (by decide) (hz _ zi_53) (fun _ h9 => h9) rfl (by decide +kernel) rfl rfl (Nat.le_of_ble_eq_true rfl) dz_T_dropFirst_40 (fun H locs hP hD hS => ?_)
      obtain ⟨S_5, eS_5⟩ : ∃ z, z = (S_4.1, (S_4.2 - p1.toNatClampNeg)) := ⟨_, rfl⟩
      have hP : va_P (dC, dI) vwCl (zt_W ci h0 row S_5) H := by rw [eS_5]; exact hP
      have hD : va_D A (zt_W ci h0 row S_5) := by rw [eS_5]; exact hD
      subst eS_4 eS_5
      have hE_6 : zt_drop q p1 = ((va_cpy q.1 q.1 p1.toNatClampNeg (0 : Int32).toNatClampNeg ((nI q.2) - p1).toNatClampNeg, q.2).1, ((va_cpy q.1 q.1 p1.toNatClampNeg (0 : Int32).toNatClampNeg ((nI q.2) - p1).toNatClampNeg, q.2).2 - p1.toNatClampNeg)) := by simp only [zt_drop, if_neg c_1, if_pos c_3]
      exact W.vret hx hb hr (fun t ht hW => ⟨⟨(), rfl, trivial, by show va_P (dC, dI) vwCl (zt_W ci h0 row (zt_drop q p1)) t.heap; rw [ht, hE_6]; exact hP⟩, hS.F ht⟩) hS.2.2 dz_T_dropFirst_43
    · have hE_7 : zt_drop q p1 = q := by simp only [zt_drop, if_neg c_1, if_neg c_3]
      exact W.vret hx hb hr (fun t ht hW => ⟨⟨(), rfl, trivial, by show va_P (dC, dI) vwCl (zt_W ci h0 row (zt_drop q p1)) t.heap; rw [ht, hE_7]; exact hP⟩, hS.F ht⟩) hS.2.2 dz_T_dropFirst_13
set_option maxHeartbeats 4000000 in
set_option maxRecDepth 100000 in
theorem ct_T_init (l : Launch) (dC : Nat → ClassId) (dI : Nat → Nat → Nat) (h0 : Nat) (sz : Nat) (c0 : Int32) : Met l yz_T_init wz_T_init (zw_room 1 1 200) (zw_U zw_ns (dC, dI) vwCl [] [.ref h0] [(h0, .inr (1, [.null, .int c0]))] sz) (va_Qv (fun _ : Nat × ClassId => True) (fun (u : Nat × ClassId) (t : State) => va_P (dC, dI) vwCl (zt_W u.2 h0 u.1 (fun _ => 0, 0)) t.heap ∧ va_K (dC, dI) vwCl [(u.2, .int)] t ∧ va_D (va_A [(h0, .inr (1, [.null, .int c0]))] sz) (zt_W u.2 h0 u.1 (fun _ => 0, 0))) (va_A [(h0, .inr (1, [.null, .int c0]))] sz)) 1 200 (va_A [(h0, .inr (1, [.null, .int c0]))] sz) := by
  refine Met.ofW (cc := cz_T_init) (maxL := 1) (ret := none) (by decide) rfl ?_
  intro p e s m args below meth c s₁ B hml hv
  obtain ⟨rfl, hsz, hP, hK, hD0, hN⟩ := hv
  have hx := B.exec
  have hb := B.bytes
  have hr := B.returns
  have hts := atoms_spec (ws := wz_T_init) B.pre
  have hown : s.vm.findClass RzT = some m.cls := findClass_of_methodNamed B.named
  have hlocks := B.notSynchronized
  have hz : ∀ w ∈ zw_T, w.before ([.ref h0] : List Value).toArray s = true := fun w h => hts w (List.mem_cons_of_mem _ h)
  have hin : meth.name = "<init>" := (name_of_methodNamed B.named B.method).1
  subst hsz
  have hD := hD0.self (sz := s.heap.size)
  generalize hAe : va_A [(h0, .inr (1, [.null, .int c0]))] s.heap.size = A at hD ⊢
  have hA : ∀ q : Nat, s.heap.size ≤ q → A q := fun q h => by rw [← hAe]; exact Or.inr h
  have hS : va_S A s.heap s.heap [] := va_S.rf
  have hl := lv_entry ([.ref h0]) (n := 1) (Nat.le_of_ble_eq_true rfl)
  rw [lg_entry_eq]
  generalize (lg_sl ([.ref h0]) ++ List.replicate (1 - (lg_sl ([.ref h0])).length) Slot.unset).toArray = ls at hl ⊢
  have hl : lv_has ls 1 [(0, .ref h0)] := hl
  refine lv_aload_n hx hb dz_T_init_0 rfl (lv_at hl 0 rfl) ?_
  refine W.objInit hx hb hown (hz _ zi_51) (hz _ zi_44) (hz _ zi_45) rfl (by rw [hml]; exact hl.1) rfl dz_T_init_1 (Nat.le_of_ble_eq_true rfl) (Nat.le_of_ble_eq_true rfl) ?_
  refine W.eq (g2 := F0 m 4 ls []) rfl ?_
  refine lv_aload_n hx hb dz_T_init_4 rfl (lv_at hl 0 rfl) ?_
  refine lv_sipush (v := 200) hx hb dz_T_init_5 (by decide) ?_
  refine va_newa (atype := .int) (a0 := (200, .inl (fun _ => 0))) (ty := .int) hx hb (hz _ zi_56) rfl hK hP hD hS hA (fun cA => rfl) (by decide) rfl (by decide) (Nat.le_of_ble_eq_true rfl) (Nat.le_of_ble_eq_true rfl) dz_T_init_8 (fun q1 cA H hK hP hD hS => ?_)
  have hK : va_K (dC, dI) vwCl [(cA, .int)] s := hK
  have hP : va_P (dC, dI) vwCl [(h0, .inr (1, [.null, .int c0])), (q1, .inl (cA, 200, .inl (fun _ => 0)))] H := hP
  have hD : va_D A [(h0, .inr (1, [.null, .int c0])), (q1, .inl (cA, 200, .inl (fun _ => 0)))] := hD
  refine W.widen (k := 1) (n := 200) (by omega) (by omega) ?_
  refine va_putF (D := (dC, dI)) (ci := 1) (v := .ref q1) (ty := .array .int) (C := RzT) (T := TzT) (N := 2) hx hb hz inzT tyzT tyzT_ok nmzT hown hK hP hD hS 0 rfl rfl 0 (by decide) (hz _ zi_52) (fun _ h9 => h9) rfl hin rfl (by decide +kernel) rfl rfl (Nat.le_of_ble_eq_true rfl) dz_T_init_10 (fun H locs hP hD hS => ?_)
  have hP : va_P (dC, dI) vwCl [(h0, .inr (1, [.ref q1, .int c0])), (q1, .inl (cA, 200, .inl (fun _ => 0)))] H := hP
  have hD : va_D A [(h0, .inr (1, [.ref q1, .int c0])), (q1, .inl (cA, 200, .inl (fun _ => 0)))] := hD
  refine lv_aload_n hx hb dz_T_init_13 rfl (lv_at hl 0 rfl) ?_
  refine lv_iconst (v := nI 0) hx hb dz_T_init_14 (by decide) ?_
  refine va_put (D := (dC, dI)) (ci := 1) (v := .int (nI 0)) (ty := .int) (C := RzT) (T := TzT) (N := 2) hx hb hz inzT tyzT tyzT_ok nmzT hown hK hP hD hS 0 rfl rfl 1 (by decide) (hz _ zi_53) (fun _ h9 => h9) rfl (by decide +kernel) rfl rfl (Nat.le_of_ble_eq_true rfl) dz_T_init_15 (fun H locs hP hD hS => ?_)
  have hP : va_P (dC, dI) vwCl (zt_W cA h0 q1 (fun _ => 0, 0)) H := hP
  have hD : va_D A (zt_W cA h0 q1 (fun _ => 0, 0)) := hD
  exact W.vret hx hb hr (fun t ht hW => ⟨⟨(q1, cA), rfl, trivial, by show va_P (dC, dI) vwCl (zt_W cA h0 q1 (fun _ => 0, 0)) t.heap; rw [ht]; exact hP, va_K.moved hW.alike hK, hD⟩, hS.F ht⟩) hS.2.2 dz_T_init_18
end
section
set_option maxHeartbeats 4000000 in
set_option maxRecDepth 100000 in
theorem ct_L_isTime (l : Launch) (dC : Nat → ClassId) (dI : Nat → Nat → Nat) (cq ci : ClassId) (h0 : Nat) (a : zl_Ad) (S : zl_S) (hok : zl_ok S) (p1 : Int64) : Met l yz_L_isTime wz_L_isTime (zw_room 0 0 0) (zw_R zw_ns (dC, dI) vwCl (zl_tys cq ci) [.ref h0, .long p1] (zl_W cq ci h0 a S)) (vp_Si (fun r => r = zl_isTime S p1)) 0 0 (fun _ => False) := by
  refine Met.ofW (cc := cz_L_isTime) (maxL := 3) (ret := (some .boolean)) (by decide) rfl ?_
  intro p e s m args below meth c s₁ B hml hv
  obtain ⟨rfl, hP, hK, hN⟩ := hv
  have hx := B.exec
  have hb := B.bytes
  have hr := B.returns
  have hts := atoms_spec (ws := wz_L_isTime) B.pre
  have hz : ∀ w ∈ zw_T, w.before ([.ref h0, .long p1] : List Value).toArray s = true := fun w h => hts w (List.mem_cons_of_mem _ h)
  have hown : s.vm.findClass RzL = some m.cls := findClass_of_methodNamed B.named
  have hlocks := B.notSynchronized
  have hl := lv_entry ([.ref h0, .long p1]) (n := 3) (Nat.le_of_ble_eq_true rfl)
  rw [lg_entry_eq]
  generalize (lg_sl ([.ref h0, .long p1]) ++ List.replicate (3 - (lg_sl ([.ref h0, .long p1])).length) Slot.unset).toArray = ls at hl ⊢
  have hl : lv_has ls 3 [(0, .ref h0), (1, .long p1)] := hl
  refine lv_lload_n hx hb dz_L_isTime_0 rfl (lv_at hl 1 rfl) ?_
  refine lv_aload_n hx hb dz_L_isTime_1 rfl (lv_at hl 0 rfl) ?_
  refine va_get (D := (dC, dI)) (ci := 2) (v := .long (zl_T S)) (C := RzL) (T := TzL) (N := 9) hx hb hz inzL hown hK hP 0 rfl rfl 5 (by decide) (hz _ zi_62) (fun _ h9 => h9) rfl dz_L_isTime_2 ?_
  refine W.lcmp hx hb dz_L_isTime_5 ?_
  refine lv_if_lt (tgt := 21) hx hb dz_L_isTime_6 (by decide) (fun c_1 => ?_) (fun c_1 => ?_)
  · refine lv_iconst (v := 0) hx hb dz_L_isTime_21 (by decide) ?_
    exact W.zret (v := 0) (ty := .boolean) hx hb hr rfl (fun t ht hW => ⟨_, rfl, by simp only [zl_isTime, if_pos c_1], ht⟩) (fun _ h => by cases h) dz_L_isTime_22
  · refine lv_lload_n hx hb dz_L_isTime_9 rfl (lv_at hl 1 rfl) ?_
    refine lv_ldc2 (v := 2000000000) hx hb hown (hz _ zi_120) dz_L_isTime_10 ?_
    refine W.lcmp hx hb dz_L_isTime_13 ?_
    refine lv_if_gt (tgt := 21) hx hb dz_L_isTime_14 (by decide) (fun c_2 => ?_) (fun c_2 => ?_)
    · refine lv_iconst (v := 0) hx hb dz_L_isTime_21 (by decide) ?_
      exact W.zret (v := 0) (ty := .boolean) hx hb hr rfl (fun t ht hW => ⟨_, rfl, by simp only [zl_isTime, if_neg c_1, if_pos c_2], ht⟩) (fun _ h => by cases h) dz_L_isTime_22
    · refine lv_iconst (v := 1) hx hb dz_L_isTime_17 (by decide) ?_
      refine lv_goto (tgt := 22) hx hb dz_L_isTime_18 (by decide) ?_
      exact W.zret (v := 1) (ty := .boolean) hx hb hr rfl (fun t ht hW => ⟨_, rfl, by simp only [zl_isTime, if_neg c_1, if_neg c_2], ht⟩) (fun _ h => by cases h) dz_L_isTime_22
set_option maxHeartbeats 4000000 in
set_option maxRecDepth 100000 in
theorem ct_L_boxAt (l : Launch) (dC : Nat → ClassId) (dI : Nat → Nat → Nat) (cq ci : ClassId) (h0 : Nat) (a : zl_Ad) (S : zl_S) (hok : zl_ok S) (p1 : Int32) : Met l yz_L_boxAt wz_L_boxAt (zw_room 0 0 0) (zw_R zw_ns (dC, dI) vwCl (zl_tys cq ci) [.ref h0, .int p1] (zl_W cq ci h0 a S)) (va_Sq (fun r => r = Option.map (zl_ab a) (zl_boxAt S p1))) 0 0 (fun _ => False) := by
  refine Met.ofW (cc := cz_L_boxAt) (maxL := 2) (ret := (some (.object "LockerRows$Box"))) (by decide) rfl ?_
  intro p e s m args below meth c s₁ B hml hv
  obtain ⟨rfl, hP, hK, hN⟩ := hv
  have hx := B.exec
  have hb := B.bytes
  have hr := B.returns
  have hts := atoms_spec (ws := wz_L_boxAt) B.pre
  have hz : ∀ w ∈ zw_T, w.before ([.ref h0, .int p1] : List Value).toArray s = true := fun w h => hts w (List.mem_cons_of_mem _ h)
  have hown : s.vm.findClass RzL = some m.cls := findClass_of_methodNamed B.named
  have hlocks := B.notSynchronized
  have hl := lv_entry ([.ref h0, .int p1]) (n := 2) (Nat.le_of_ble_eq_true rfl)
  rw [lg_entry_eq]
  generalize (lg_sl ([.ref h0, .int p1]) ++ List.replicate (2 - (lg_sl ([.ref h0, .int p1])).length) Slot.unset).toArray = ls at hl ⊢
  have hl : lv_has ls 2 [(0, .ref h0), (1, .int p1)] := hl
  refine lv_iload_n hx hb dz_L_boxAt_0 rfl (lv_at hl 1 rfl) ?_
  refine lv_iconst (v := 1) hx hb dz_L_boxAt_1 (by decide) ?_
  refine lv_icmp_lt (tgt := 30) hx hb dz_L_boxAt_2 (by decide) (fun c_1 => ?_) (fun c_1 => ?_)
  · refine lv_null hx hb dz_L_boxAt_30 ?_
    exact W.aret (v := .null) hx hb hr (Or.inl ⟨_, rfl⟩) (Or.inl rfl) (fun t ht hW => ⟨none, rfl, by simp only [zl_boxAt, if_pos c_1, Option.map], ht⟩) (fun _ h => by cases h) dz_L_boxAt_31
  · refine lv_iload_n hx hb dz_L_boxAt_5 rfl (lv_at hl 1 rfl) ?_
    refine lv_aload_n hx hb dz_L_boxAt_6 rfl (lv_at hl 0 rfl) ?_
    refine va_get (D := (dC, dI)) (ci := 2) (v := .int (nI (zl_n S))) (C := RzL) (T := TzL) (N := 9) hx hb hz inzL hown hK hP 0 rfl rfl 1 (by decide) (hz _ zi_58) (fun _ h9 => h9) rfl dz_L_boxAt_7 ?_
    refine lv_icmp_gt (tgt := 30) hx hb dz_L_boxAt_10 (by decide) (fun c_2 => ?_) (fun c_2 => ?_)
    · refine lv_null hx hb dz_L_boxAt_30 ?_
      exact W.aret (v := .null) hx hb hr (Or.inl ⟨_, rfl⟩) (Or.inl rfl) (fun t ht hW => ⟨none, rfl, by simp only [zl_boxAt, if_neg c_1, if_pos c_2, Option.map], ht⟩) (fun _ h => by cases h) dz_L_boxAt_31
    · refine lv_iload_n hx hb dz_L_boxAt_13 rfl (lv_at hl 1 rfl) ?_
      refine lv_bipush (v := 60) hx hb dz_L_boxAt_14 (by decide) ?_
      refine lv_icmp_gt (tgt := 30) hx hb dz_L_boxAt_16 (by decide) (fun c_3 => ?_) (fun c_3 => ?_)
      · refine lv_null hx hb dz_L_boxAt_30 ?_
        exact W.aret (v := .null) hx hb hr (Or.inl ⟨_, rfl⟩) (Or.inl rfl) (fun t ht hW => ⟨none, rfl, by simp only [zl_boxAt, if_neg c_1, if_neg c_2, if_pos c_3, Option.map], ht⟩) (fun _ h => by cases h) dz_L_boxAt_31
      · refine lv_aload_n hx hb dz_L_boxAt_19 rfl (lv_at hl 0 rfl) ?_
        refine va_get (D := (dC, dI)) (ci := 2) (v := .ref a.1) (C := RzL) (T := TzL) (N := 9) hx hb hz inzL hown hK hP 0 rfl rfl 0 (by decide) (hz _ zi_57) (fun _ h9 => h9) rfl dz_L_boxAt_20 ?_
        refine lv_iload_n hx hb dz_L_boxAt_23 rfl (lv_at hl 1 rfl) ?_
        refine lv_iconst (v := 1) hx hb dz_L_boxAt_24 (by decide) ?_
        refine lv_isub hx hb dz_L_boxAt_25 ?_
        obtain ⟨hj1, hj2⟩ := zl_idx hok c_1 c_2
        refine va_aldq hx hb hK hP 1 0 rfl rfl hj2 dz_L_boxAt_26 ?_
        refine W.eq (g2 := F0 m 27 ls [.ref (zl_ab a (p1 - 1).toNatClampNeg)]) (by simp only [zl_refs, if_pos hj1, va_rf]) ?_
        refine lv_goto (tgt := 31) hx hb dz_L_boxAt_27 (by decide) ?_
        exact W.aret (v := .ref (zl_ab a (p1 - 1).toNatClampNeg)) hx hb hr (Or.inl ⟨_, rfl⟩) (Or.inr ⟨_, rfl⟩) (fun t ht hW => ⟨some (zl_ab a (p1 - 1).toNatClampNeg), rfl, by simp only [zl_boxAt, if_neg c_1, if_neg c_2, if_neg c_3, Option.map], ht⟩) (fun _ h => by cases h) dz_L_boxAt_31
set_option maxHeartbeats 4000000 in
set_option maxRecDepth 100000 in
theorem ct_L_boxOfItem (l : Launch) (dC : Nat → ClassId) (dI : Nat → Nat → Nat) (cq ci : ClassId) (h0 : Nat) (a : zl_Ad) (S : zl_S) (hok : zl_ok S) (p1 : Int32) : Met l yz_L_boxOfItem wz_L_boxOfItem (zw_room 1 0 0) (zw_R zw_ns (dC, dI) vwCl (zl_tys cq ci) [.ref h0, .int p1] (zl_W cq ci h0 a S)) (va_Sq (fun r => r = Option.map (zl_ab a) (zl_boxOfItem S p1))) 0 0 (fun _ => False) := by
  refine Met.ofW (cc := cz_L_boxOfItem) (maxL := 4) (ret := (some (.object "LockerRows$Box"))) (by decide) rfl ?_
  intro p e s m args below meth c s₁ B hml hv
  obtain ⟨rfl, hP, hK, hN⟩ := hv
  have hx := B.exec
  have hb := B.bytes
  have hr := B.returns
  have hts := atoms_spec (ws := wz_L_boxOfItem) B.pre
  have hz : ∀ w ∈ zw_T, w.before ([.ref h0, .int p1] : List Value).toArray s = true := fun w h => hts w (List.mem_cons_of_mem _ h)
  have hown : s.vm.findClass RzL = some m.cls := findClass_of_methodNamed B.named
  have hlocks := B.notSynchronized
  have hl := lv_entry ([.ref h0, .int p1]) (n := 4) (Nat.le_of_ble_eq_true rfl)
  rw [lg_entry_eq]
  generalize (lg_sl ([.ref h0, .int p1]) ++ List.replicate (4 - (lg_sl ([.ref h0, .int p1])).length) Slot.unset).toArray = ls at hl ⊢
  have hl : lv_has ls 4 [(0, .ref h0), (1, .int p1)] := hl
  refine lv_iconst (v := nI (0 + 1)) hx hb dz_L_boxOfItem_0 (by decide) ?_
  refine lv_istore_n (lv' := [(2, .int (nI (0 + 1))), (0, .ref h0), (1, .int p1)]) hx hb dz_L_boxOfItem_1 rfl hl (by decide) rfl (fun ls hl => ?_)
  have loop : ∀ (k j : Nat) (ls : Array Slot), j + k = zl_n S → zl_fi (zl_B S) p1 (zl_n S) 0 = zl_fi (zl_B S) p1 k j → lv_has ls 4 [(2, .int (nI (j + 1))), (0, .ref h0), (1, .int p1)] → W p l e (headSpec wz_L_boxOfItem (zw_room 1 0 0)).room s m ([.ref h0, .int p1] : List Value).toArray below meth c s.heap [] 0 0 (MQ below (va_Sq (fun r => r = Option.map (zl_ab a) (zl_boxOfItem S p1))) ([.ref h0, .int p1] : List Value).toArray s 0 0 (fun _ => False)) (F0 m 2 ls []) := by
    intro k
    induction k with
    | zero =>
      intro j ls hjk hinv hl
      refine lv_iload_n hx hb dz_L_boxOfItem_2 rfl (lv_at hl 0 rfl) ?_
      refine lv_aload_n hx hb dz_L_boxOfItem_3 rfl (lv_at hl 1 rfl) ?_
      refine va_get (D := (dC, dI)) (ci := 2) (v := .int (nI (zl_n S))) (C := RzL) (T := TzL) (N := 9) hx hb hz inzL hown hK hP 0 rfl rfl 1 (by decide) (hz _ zi_58) (fun _ h9 => h9) rfl dz_L_boxOfItem_4 ?_
      refine lv_icmp_gt (tgt := 36) hx hb dz_L_boxOfItem_7 (by decide) (fun c_1 => ?_) (fun c_1 => ?_)
      · refine lv_null hx hb dz_L_boxOfItem_36 ?_
        exact W.aret (v := .null) hx hb hr (Or.inl ⟨_, rfl⟩) (Or.inl rfl) (fun t ht hW => ⟨none, rfl, by rw [zl_boxOfItem, hinv]; rfl, ht⟩) (fun _ h => by cases h) dz_L_boxOfItem_37
      · exact absurd (nI_lt (by omega) (by have := hok.1; omega)) c_1
    | succ k ih =>
      intro j ls hjk hinv hl
      have hj : j < zl_n S := by omega
      refine lv_iload_n hx hb dz_L_boxOfItem_2 rfl (lv_at hl 0 rfl) ?_
      refine lv_aload_n hx hb dz_L_boxOfItem_3 rfl (lv_at hl 1 rfl) ?_
      refine va_get (D := (dC, dI)) (ci := 2) (v := .int (nI (zl_n S))) (C := RzL) (T := TzL) (N := 9) hx hb hz inzL hown hK hP 0 rfl rfl 1 (by decide) (hz _ zi_58) (fun _ h9 => h9) rfl dz_L_boxOfItem_4 ?_
      refine lv_icmp_gt (tgt := 36) hx hb dz_L_boxOfItem_7 (by decide) (fun c_2 => ?_) (fun c_2 => ?_)
      · exact absurd c_2 (nI_nlt (by omega) (by have := hok.1; omega))
      · refine lv_aload_n hx hb dz_L_boxOfItem_10 rfl (lv_at hl 1 rfl) ?_
        refine lv_iload_n hx hb dz_L_boxOfItem_11 rfl (lv_at hl 0 rfl) ?_
        refine va_csq (va_Run.run (va_runV (As := [.int (nI (j + 1))]) (rest := []) ⟨hx, hb, hml, hown, hz⟩ (ct_L_boxAt l dC dI cq ci h0 a S hok (nI (j + 1))) (cwV 1 hz (zw_gV zi_124 zi_125 zi_3 zi_33 zi_126) rfl rfl rfl (by decide +kernel) ⟨Nat.le_of_ble_eq_true rfl, Nat.le_of_ble_eq_true rfl⟩) (zw_preRV zw_ns_ok hP hK hN (ci := 2) rfl (k := 0) rfl) rfl rfl hl.1 rfl (lv_room (Nat.le_of_ble_eq_true rfl)) dz_L_boxOfItem_12 ⟨Nat.le_of_ble_eq_true rfl, Nat.le_of_ble_eq_true rfl⟩)) (fun r_3 hr_3 => ?_)
        have hr_3 : r_3 = Option.map (zl_ab a) (zl_boxAt S (nI (j + 1))) := hr_3
        rw [zl_boxAt_nI hok hj] at hr_3
        subst hr_3
        refine W.eq (g2 := F0 m 15 ls [.ref (zl_ab a j)]) rfl ?_
        refine lv_astore_n (lv' := [(3, .ref (zl_ab a j)), (2, .int (nI (j + 1))), (0, .ref h0), (1, .int p1)]) hx hb dz_L_boxOfItem_15 rfl hl (by decide) rfl (fun ls hl => ?_)
        refine lv_aload_n hx hb dz_L_boxOfItem_16 rfl (lv_at hl 0 rfl) ?_
        refine lv_ifnull hx hb dz_L_boxOfItem_17 ?_
        refine lv_aload_n hx hb dz_L_boxOfItem_20 rfl (lv_at hl 0 rfl) ?_
        refine va_getN (D := (dC, dI)) (ci := 0) (v := .int (zb_It (zl_B S j))) (C := RzB) (T := TzB) (N := 9) hx hb hz inzB hown hK hP (j + 5) (zl_box hj) rfl 4 (by decide) (va_Nw.use rfl (hN _ zn_5)) (fun _ h9 => h9) rfl dz_L_boxOfItem_21 ?_
        refine lv_iload_n hx hb dz_L_boxOfItem_24 rfl (lv_at hl 3 rfl) ?_
        refine lv_icmp_ne (tgt := 30) hx hb dz_L_boxOfItem_25 (by decide) (fun c_4 => ?_) (fun c_4 => ?_)
        · refine lv_iinc (v := nI (j + 1 + 1)) (lv' := [(2, .int (nI (j + 1 + 1))), (3, .ref (zl_ab a j)), (0, .ref h0), (1, .int p1)]) hx hb dz_L_boxOfItem_30 hl (k := 1) rfl (nI_1 _) (by decide) rfl (fun ls hl => ?_)
          refine lv_goto (tgt := 2) hx hb dz_L_boxOfItem_33 (by decide) ?_
          exact ih (j + 1) ls (by omega) (by rw [hinv]; simp only [zl_fi, if_neg c_4]) (lv_sub hl [0, 2, 3] rfl)
        · refine lv_aload_n hx hb dz_L_boxOfItem_28 rfl (lv_at hl 0 rfl) ?_
          exact W.aret (v := .ref (zl_ab a j)) hx hb hr (Or.inl ⟨_, rfl⟩) (Or.inr ⟨_, rfl⟩) (fun t ht hW => ⟨some (zl_ab a j), rfl, by rw [zl_boxOfItem, hinv]; simp only [zl_fi, if_pos c_4]; rfl, ht⟩) (fun _ h => by cases h) dz_L_boxOfItem_29
  exact loop (zl_n S) 0 ls (by omega) rfl (lv_sub hl [0, 1, 2] rfl)
set_option maxHeartbeats 4000000 in
set_option maxRecDepth 100000 in
theorem ct_L_boxNumberOfCode (l : Launch) (dC : Nat → ClassId) (dI : Nat → Nat → Nat) (cq ci : ClassId) (h0 : Nat) (a : zl_Ad) (S : zl_S) (hok : zl_ok S) (p1 : Int32) : Met l yz_L_boxNumberOfCode wz_L_boxNumberOfCode (zw_room 1 0 0) (zw_R zw_ns (dC, dI) vwCl (zl_tys cq ci) [.ref h0, .int p1] (zl_W cq ci h0 a S)) (vp_Si (fun r => r = zl_boxNumberOfCode S p1)) 0 0 (fun _ => False) := by
  refine Met.ofW (cc := cz_L_boxNumberOfCode) (maxL := 4) (ret := (some .int)) (by decide) rfl ?_
  intro p e s m args below meth c s₁ B hml hv
  obtain ⟨rfl, hP, hK, hN⟩ := hv
  have hx := B.exec
  have hb := B.bytes
  have hr := B.returns
  have hts := atoms_spec (ws := wz_L_boxNumberOfCode) B.pre
  have hz : ∀ w ∈ zw_T, w.before ([.ref h0, .int p1] : List Value).toArray s = true := fun w h => hts w (List.mem_cons_of_mem _ h)
  have hown : s.vm.findClass RzL = some m.cls := findClass_of_methodNamed B.named
  have hlocks := B.notSynchronized
  have hl := lv_entry ([.ref h0, .int p1]) (n := 4) (Nat.le_of_ble_eq_true rfl)
  rw [lg_entry_eq]
  generalize (lg_sl ([.ref h0, .int p1]) ++ List.replicate (4 - (lg_sl ([.ref h0, .int p1])).length) Slot.unset).toArray = ls at hl ⊢
  have hl : lv_has ls 4 [(0, .ref h0), (1, .int p1)] := hl
  refine lv_iconst (v := nI (0 + 1)) hx hb dz_L_boxNumberOfCode_0 (by decide) ?_
  refine lv_istore_n (lv' := [(2, .int (nI (0 + 1))), (0, .ref h0), (1, .int p1)]) hx hb dz_L_boxNumberOfCode_1 rfl hl (by decide) rfl (fun ls hl => ?_)
  have loop : ∀ (k j : Nat) (ls : Array Slot), j + k = zl_n S → zl_nc (zl_B S) p1 (zl_n S) 0 = zl_nc (zl_B S) p1 k j → lv_has ls 4 [(2, .int (nI (j + 1))), (0, .ref h0), (1, .int p1)] → W p l e (headSpec wz_L_boxNumberOfCode (zw_room 1 0 0)).room s m ([.ref h0, .int p1] : List Value).toArray below meth c s.heap [] 0 0 (MQ below (vp_Si (fun r => r = zl_boxNumberOfCode S p1)) ([.ref h0, .int p1] : List Value).toArray s 0 0 (fun _ => False)) (F0 m 2 ls []) := by
    intro k
    induction k with
    | zero =>
      intro j ls hjk hinv hl
      refine lv_iload_n hx hb dz_L_boxNumberOfCode_2 rfl (lv_at hl 0 rfl) ?_
      refine lv_aload_n hx hb dz_L_boxNumberOfCode_3 rfl (lv_at hl 1 rfl) ?_
      refine va_get (D := (dC, dI)) (ci := 2) (v := .int (nI (zl_n S))) (C := RzL) (T := TzL) (N := 9) hx hb hz inzL hown hK hP 0 rfl rfl 1 (by decide) (hz _ zi_58) (fun _ h9 => h9) rfl dz_L_boxNumberOfCode_4 ?_
      refine lv_icmp_gt (tgt := 43) hx hb dz_L_boxNumberOfCode_7 (by decide) (fun c_1 => ?_) (fun c_1 => ?_)
      · refine lv_iconst (v := 0) hx hb dz_L_boxNumberOfCode_43 (by decide) ?_
        exact W.iret (v := 0) hx hb hr (fun t ht hW => ⟨_, rfl, by rw [zl_boxNumberOfCode, hinv]; rfl, ht⟩) (fun _ h => by cases h) dz_L_boxNumberOfCode_44
      · exact absurd (nI_lt (by omega) (by have := hok.1; omega)) c_1
    | succ k ih =>
      intro j ls hjk hinv hl
      have hj : j < zl_n S := by omega
      refine lv_iload_n hx hb dz_L_boxNumberOfCode_2 rfl (lv_at hl 0 rfl) ?_
      refine lv_aload_n hx hb dz_L_boxNumberOfCode_3 rfl (lv_at hl 1 rfl) ?_
      refine va_get (D := (dC, dI)) (ci := 2) (v := .int (nI (zl_n S))) (C := RzL) (T := TzL) (N := 9) hx hb hz inzL hown hK hP 0 rfl rfl 1 (by decide) (hz _ zi_58) (fun _ h9 => h9) rfl dz_L_boxNumberOfCode_4 ?_
      refine lv_icmp_gt (tgt := 43) hx hb dz_L_boxNumberOfCode_7 (by decide) (fun c_2 => ?_) (fun c_2 => ?_)
      · exact absurd c_2 (nI_nlt (by omega) (by have := hok.1; omega))
      · refine lv_aload_n hx hb dz_L_boxNumberOfCode_10 rfl (lv_at hl 1 rfl) ?_
        refine lv_iload_n hx hb dz_L_boxNumberOfCode_11 rfl (lv_at hl 0 rfl) ?_
        refine va_csq (va_Run.run (va_runV (As := [.int (nI (j + 1))]) (rest := []) ⟨hx, hb, hml, hown, hz⟩ (ct_L_boxAt l dC dI cq ci h0 a S hok (nI (j + 1))) (cwV 1 hz (zw_gV zi_124 zi_125 zi_3 zi_33 zi_126) rfl rfl rfl (by decide +kernel) ⟨Nat.le_of_ble_eq_true rfl, Nat.le_of_ble_eq_true rfl⟩) (zw_preRV zw_ns_ok hP hK hN (ci := 2) rfl (k := 0) rfl) rfl rfl hl.1 rfl (lv_room (Nat.le_of_ble_eq_true rfl)) dz_L_boxNumberOfCode_12 ⟨Nat.le_of_ble_eq_true rfl, Nat.le_of_ble_eq_true rfl⟩)) (fun r_3 hr_3 => ?_)
        have hr_3 : r_3 = Option.map (zl_ab a) (zl_boxAt S (nI (j + 1))) := hr_3
        rw [zl_boxAt_nI hok hj] at hr_3
        subst hr_3
        refine W.eq (g2 := F0 m 15 ls [.ref (zl_ab a j)]) rfl ?_
        refine lv_astore_n (lv' := [(3, .ref (zl_ab a j)), (2, .int (nI (j + 1))), (0, .ref h0), (1, .int p1)]) hx hb dz_L_boxNumberOfCode_15 rfl hl (by decide) rfl (fun ls hl => ?_)
        refine lv_aload_n hx hb dz_L_boxNumberOfCode_16 rfl (lv_at hl 0 rfl) ?_
        refine lv_ifnull hx hb dz_L_boxNumberOfCode_17 ?_
        refine lv_aload_n hx hb dz_L_boxNumberOfCode_20 rfl (lv_at hl 0 rfl) ?_
        refine vp_callSi (va_Run.run (va_runVN (As := []) (rest := []) ⟨hx, hb, hml, hown, hz⟩ (ct_B_lies l dC dI cq ci (zl_ab a j) (zl_B S j)) ⟨va_cnB 0 hz (zw_g1 zi_158) rfl rfl rfl (hN _ zn_18) (hz _ zi_36) (by decide +kernel) ⟨Nat.le_of_ble_eq_true rfl, Nat.le_of_ble_eq_true rfl⟩, hz _ zi_157, hz _ zi_12⟩ (zw_preRV zw_ns_ok (show va_P (dC, dI) vwCl (zb_W (zl_ab a j) (zl_B S j)) s.heap from zw_P1 hP (zl_box hj)) hK hN (ci := 0) rfl (k := 0) rfl) rfl rfl hl.1 rfl (lv_room (Nat.le_of_ble_eq_true rfl)) dz_L_boxNumberOfCode_21 ⟨Nat.le_of_ble_eq_true rfl, Nat.le_of_ble_eq_true rfl⟩)) (fun r_4 hr_4 => ?_)
        have hr_4 : r_4 = zb_lies (zl_B S j) := hr_4
        subst hr_4
        refine lv_if_eq (tgt := 37) hx hb dz_L_boxNumberOfCode_24 (by decide) (fun c_5 => ?_) (fun c_5 => ?_)
        · refine lv_iinc (v := nI (j + 1 + 1)) (lv' := [(2, .int (nI (j + 1 + 1))), (3, .ref (zl_ab a j)), (0, .ref h0), (1, .int p1)]) hx hb dz_L_boxNumberOfCode_37 hl (k := 1) rfl (nI_1 _) (by decide) rfl (fun ls hl => ?_)
          refine lv_goto (tgt := 2) hx hb dz_L_boxNumberOfCode_40 (by decide) ?_
          exact ih (j + 1) ls (by omega) (by rw [hinv]; simp only [zl_nc, if_pos c_5]) (lv_sub hl [0, 2, 3] rfl)
        · refine lv_aload_n hx hb dz_L_boxNumberOfCode_27 rfl (lv_at hl 0 rfl) ?_
          refine va_getN (D := (dC, dI)) (ci := 0) (v := .int (zb_Co (zl_B S j))) (C := RzB) (T := TzB) (N := 9) hx hb hz inzB hown hK hP (j + 5) (zl_box hj) rfl 5 (by decide) (va_Nw.use rfl (hN _ zn_6)) (fun _ h9 => h9) rfl dz_L_boxNumberOfCode_28 ?_
          refine lv_iload_n hx hb dz_L_boxNumberOfCode_31 rfl (lv_at hl 3 rfl) ?_
          refine lv_icmp_ne (tgt := 37) hx hb dz_L_boxNumberOfCode_32 (by decide) (fun c_6 => ?_) (fun c_6 => ?_)
          · refine lv_iinc (v := nI (j + 1 + 1)) (lv' := [(2, .int (nI (j + 1 + 1))), (3, .ref (zl_ab a j)), (0, .ref h0), (1, .int p1)]) hx hb dz_L_boxNumberOfCode_37 hl (k := 1) rfl (nI_1 _) (by decide) rfl (fun ls hl => ?_)
            refine lv_goto (tgt := 2) hx hb dz_L_boxNumberOfCode_40 (by decide) ?_
            exact ih (j + 1) ls (by omega) (by rw [hinv]; simp only [zl_nc, if_neg c_5, if_neg c_6]) (lv_sub hl [0, 2, 3] rfl)
          · refine lv_iload_n hx hb dz_L_boxNumberOfCode_35 rfl (lv_at hl 1 rfl) ?_
            exact W.iret (v := nI (j + 1)) hx hb hr (fun t ht hW => ⟨_, rfl, by rw [zl_boxNumberOfCode, hinv]; simp only [zl_nc, if_neg c_5, if_pos c_6], ht⟩) (fun _ h => by cases h) dz_L_boxNumberOfCode_36
  exact loop (zl_n S) 0 ls (by omega) rfl (lv_sub hl [0, 1, 2] rfl)
set_option maxHeartbeats 4000000 in
set_option maxRecDepth 100000 in
theorem ct_L_smallestUnused (l : Launch) (dC : Nat → ClassId) (dI : Nat → Nat → Nat) (cq ci : ClassId) (h0 : Nat) (a : zl_Ad) (S : zl_S) (hok : zl_ok S) (p1 : Int32) : Met l yz_L_smallestUnused wz_L_smallestUnused (zw_room 2 0 0) (zw_R zw_ns (dC, dI) vwCl (zl_tys cq ci) [.ref h0, .int p1] (zl_W cq ci h0 a S)) (vp_Si (fun r => r = zl_smallest S p1)) 0 0 (fun _ => False) := by
  refine Met.ofW (cc := cz_L_smallestUnused) (maxL := 6) (ret := (some .int)) (by decide) rfl ?_
  intro p e s m args below meth c s₁ B hml hv
  obtain ⟨rfl, hP, hK, hN⟩ := hv
  have hx := B.exec
  have hb := B.bytes
  have hr := B.returns
  have hts := atoms_spec (ws := wz_L_smallestUnused) B.pre
  have hz : ∀ w ∈ zw_T, w.before ([.ref h0, .int p1] : List Value).toArray s = true := fun w h => hts w (List.mem_cons_of_mem _ h)
  have hown : s.vm.findClass RzL = some m.cls := findClass_of_methodNamed B.named
  have hlocks := B.notSynchronized
  have hl := lv_entry ([.ref h0, .int p1]) (n := 6) (Nat.le_of_ble_eq_true rfl)
  rw [lg_entry_eq]
  generalize (lg_sl ([.ref h0, .int p1]) ++ List.replicate (6 - (lg_sl ([.ref h0, .int p1])).length) Slot.unset).toArray = ls at hl ⊢
  have hl : lv_has ls 6 [(0, .ref h0), (1, .int p1)] := hl
  refine lv_iconst (v := 0) hx hb dz_L_smallestUnused_0 (by decide) ?_
  refine lv_istore_n (lv' := [(2, .int 0), (0, .ref h0), (1, .int p1)]) hx hb dz_L_smallestUnused_1 rfl hl (by decide) rfl (fun ls hl => ?_)
  refine lv_bipush (v := 6) hx hb dz_L_smallestUnused_2 (by decide) ?_
  refine lv_istore_n (lv' := [(3, .int 6), (2, .int 0), (0, .ref h0), (1, .int p1)]) hx hb dz_L_smallestUnused_4 rfl hl (by decide) rfl (fun ls hl => ?_)
  refine lv_iconst (v := nI (0 + 1)) hx hb dz_L_smallestUnused_5 (by decide) ?_
  refine lv_istore (lv' := [(4, .int (nI (0 + 1))), (3, .int 6), (2, .int 0), (0, .ref h0), (1, .int p1)]) hx hb dz_L_smallestUnused_6 hl (by decide) rfl (fun ls hl => ?_)
  have loop : ∀ (k j : Nat) (bb zb : Int32) (ls : Array Slot), j + k = zl_n S → zl_su (zl_B S) p1 (zl_n S) 0 0 6 = zl_su (zl_B S) p1 k j bb zb → lv_has ls 6 [(4, .int (nI (j + 1))), (3, .int zb), (2, .int bb), (0, .ref h0), (1, .int p1)] → W p l e (headSpec wz_L_smallestUnused (zw_room 2 0 0)).room s m ([.ref h0, .int p1] : List Value).toArray below meth c s.heap [] 0 0 (MQ below (vp_Si (fun r => r = zl_smallest S p1)) ([.ref h0, .int p1] : List Value).toArray s 0 0 (fun _ => False)) (F0 m 8 ls []) := by
    intro k
    induction k with
    | zero =>
      intro j bb zb ls hjk hinv hl
      refine lv_iload hx hb dz_L_smallestUnused_8 (lv_at hl 0 rfl) ?_
      refine lv_aload_n hx hb dz_L_smallestUnused_10 rfl (lv_at hl 3 rfl) ?_
      refine va_get (D := (dC, dI)) (ci := 2) (v := .int (nI (zl_n S))) (C := RzL) (T := TzL) (N := 9) hx hb hz inzL hown hK hP 0 rfl rfl 1 (by decide) (hz _ zi_58) (fun _ h9 => h9) rfl dz_L_smallestUnused_11 ?_
      refine lv_icmp_gt (tgt := 71) hx hb dz_L_smallestUnused_14 (by decide) (fun c_1 => ?_) (fun c_1 => ?_)
      · refine lv_iload_n hx hb dz_L_smallestUnused_71 rfl (lv_at hl 2 rfl) ?_
        exact W.iret (v := bb) hx hb hr (fun t ht hW => ⟨_, rfl, by rw [zl_smallest, hinv]; rfl, ht⟩) (fun _ h => by cases h) dz_L_smallestUnused_72
      · exact absurd (nI_lt (by omega) (by have := hok.1; omega)) c_1
    | succ k ih =>
      intro j bb zb ls hjk hinv hl
      have hj : j < zl_n S := by omega
      refine lv_iload hx hb dz_L_smallestUnused_8 (lv_at hl 0 rfl) ?_
      refine lv_aload_n hx hb dz_L_smallestUnused_10 rfl (lv_at hl 3 rfl) ?_
      refine va_get (D := (dC, dI)) (ci := 2) (v := .int (nI (zl_n S))) (C := RzL) (T := TzL) (N := 9) hx hb hz inzL hown hK hP 0 rfl rfl 1 (by decide) (hz _ zi_58) (fun _ h9 => h9) rfl dz_L_smallestUnused_11 ?_
      refine lv_icmp_gt (tgt := 71) hx hb dz_L_smallestUnused_14 (by decide) (fun c_2 => ?_) (fun c_2 => ?_)
      · exact absurd c_2 (nI_nlt (by omega) (by have := hok.1; omega))
      · refine lv_aload_n hx hb dz_L_smallestUnused_17 rfl (lv_at hl 3 rfl) ?_
        refine lv_iload hx hb dz_L_smallestUnused_18 (lv_at hl 0 rfl) ?_
        refine va_csq (va_Run.run (va_runV (As := [.int (nI (j + 1))]) (rest := []) ⟨hx, hb, hml, hown, hz⟩ (ct_L_boxAt l dC dI cq ci h0 a S hok (nI (j + 1))) (cwV 1 hz (zw_gV zi_124 zi_125 zi_3 zi_33 zi_126) rfl rfl rfl (by decide +kernel) ⟨Nat.le_of_ble_eq_true rfl, Nat.le_of_ble_eq_true rfl⟩) (zw_preRV zw_ns_ok hP hK hN (ci := 2) rfl (k := 0) rfl) rfl rfl hl.1 rfl (lv_room (Nat.le_of_ble_eq_true rfl)) dz_L_smallestUnused_20 ⟨Nat.le_of_ble_eq_true rfl, Nat.le_of_ble_eq_true rfl⟩)) (fun r_3 hr_3 => ?_)
        have hr_3 : r_3 = Option.map (zl_ab a) (zl_boxAt S (nI (j + 1))) := hr_3
        rw [zl_boxAt_nI hok hj] at hr_3
        subst hr_3
        refine W.eq (g2 := F0 m 23 ls [.ref (zl_ab a j)]) rfl ?_
        refine lv_astore (lv' := [(5, .ref (zl_ab a j)), (4, .int (nI (j + 1))), (3, .int zb), (2, .int bb), (0, .ref h0), (1, .int p1)]) hx hb dz_L_smallestUnused_23 hl (by decide) rfl (fun ls hl => ?_)
        refine lv_aload hx hb dz_L_smallestUnused_25 (lv_at hl 0 rfl) ?_
        refine lv_ifnull hx hb dz_L_smallestUnused_27 ?_
        refine lv_aload hx hb dz_L_smallestUnused_30 (lv_at hl 0 rfl) ?_
        refine vp_callSi (va_Run.run (va_runVN (As := []) (rest := []) ⟨hx, hb, hml, hown, hz⟩ (ct_B_isUnused l dC dI cq ci (zl_ab a j) (zl_B S j)) ⟨va_cnB 0 hz (zw_g1 zi_128) rfl rfl rfl (hN _ zn_11) (hz _ zi_36) (by decide +kernel) ⟨Nat.le_of_ble_eq_true rfl, Nat.le_of_ble_eq_true rfl⟩, hz _ zi_127, hz _ zi_4⟩ (zw_preRV zw_ns_ok (show va_P (dC, dI) vwCl (zb_W (zl_ab a j) (zl_B S j)) s.heap from zw_P1 hP (zl_box hj)) hK hN (ci := 0) rfl (k := 0) rfl) rfl rfl hl.1 rfl (lv_room (Nat.le_of_ble_eq_true rfl)) dz_L_smallestUnused_32 ⟨Nat.le_of_ble_eq_true rfl, Nat.le_of_ble_eq_true rfl⟩)) (fun r_4 hr_4 => ?_)
        have hr_4 : r_4 = zb_isUnused (zl_B S j) := hr_4
        subst hr_4
        refine lv_if_eq (tgt := 65) hx hb dz_L_smallestUnused_35 (by decide) (fun c_5 => ?_) (fun c_5 => ?_)
        · refine lv_iinc (v := nI (j + 1 + 1)) (lv' := [(4, .int (nI (j + 1 + 1))), (5, .ref (zl_ab a j)), (3, .int zb), (2, .int bb), (0, .ref h0), (1, .int p1)]) hx hb dz_L_smallestUnused_65 hl (k := 1) rfl (nI_1 _) (by decide) rfl (fun ls hl => ?_)
          refine lv_goto (tgt := 8) hx hb dz_L_smallestUnused_68 (by decide) ?_
          exact ih (j + 1) bb zb ls (by omega) (by rw [hinv]; simp only [zl_su, if_pos c_5]) (lv_sub hl [0, 2, 3, 4, 5] rfl)
        · refine lv_aload hx hb dz_L_smallestUnused_38 (lv_at hl 0 rfl) ?_
          refine va_getN (D := (dC, dI)) (ci := 0) (v := .int (zb_Sz (zl_B S j))) (C := RzB) (T := TzB) (N := 9) hx hb hz inzB hown hK hP (j + 5) (zl_box hj) rfl 0 (by decide) (va_Nw.use rfl (hN _ zn_3)) (fun _ h9 => h9) rfl dz_L_smallestUnused_40 ?_
          refine lv_iload_n hx hb dz_L_smallestUnused_43 rfl (lv_at hl 5 rfl) ?_
          refine lv_icmp_lt (tgt := 65) hx hb dz_L_smallestUnused_44 (by decide) (fun c_6 => ?_) (fun c_6 => ?_)
          · refine lv_iinc (v := nI (j + 1 + 1)) (lv' := [(4, .int (nI (j + 1 + 1))), (5, .ref (zl_ab a j)), (3, .int zb), (2, .int bb), (0, .ref h0), (1, .int p1)]) hx hb dz_L_smallestUnused_65 hl (k := 1) rfl (nI_1 _) (by decide) rfl (fun ls hl => ?_)
            refine lv_goto (tgt := 8) hx hb dz_L_smallestUnused_68 (by decide) ?_
            exact ih (j + 1) bb zb ls (by omega) (by rw [hinv]; simp only [zl_su, if_neg c_5, if_pos c_6]) (lv_sub hl [0, 2, 3, 4, 5] rfl)
          · refine lv_aload hx hb dz_L_smallestUnused_47 (lv_at hl 0 rfl) ?_
            refine va_getN (D := (dC, dI)) (ci := 0) (v := .int (zb_Sz (zl_B S j))) (C := RzB) (T := TzB) (N := 9) hx hb hz inzB hown hK hP (j + 5) (zl_box hj) rfl 0 (by decide) (va_Nw.use rfl (hN _ zn_3)) (fun _ h9 => h9) rfl dz_L_smallestUnused_49 ?_
            refine lv_iload_n hx hb dz_L_smallestUnused_52 rfl (lv_at hl 2 rfl) ?_
            refine lv_icmp_ge (tgt := 65) hx hb dz_L_smallestUnused_53 (by decide) (fun c_7 => ?_) (fun c_7 => ?_)
            · refine lv_iinc (v := nI (j + 1 + 1)) (lv' := [(4, .int (nI (j + 1 + 1))), (5, .ref (zl_ab a j)), (3, .int zb), (2, .int bb), (0, .ref h0), (1, .int p1)]) hx hb dz_L_smallestUnused_65 hl (k := 1) rfl (nI_1 _) (by decide) rfl (fun ls hl => ?_)
              refine lv_goto (tgt := 8) hx hb dz_L_smallestUnused_68 (by decide) ?_
              exact ih (j + 1) bb zb ls (by omega) (by rw [hinv]; simp only [zl_su, if_neg c_5, if_neg c_6, if_pos c_7]) (lv_sub hl [0, 2, 3, 4, 5] rfl)
            · refine lv_iload hx hb dz_L_smallestUnused_56 (lv_at hl 1 rfl) ?_
              refine lv_istore_n (lv' := [(2, .int (nI (j + 1))), (5, .ref (zl_ab a j)), (4, .int (nI (j + 1))), (3, .int zb), (0, .ref h0), (1, .int p1)]) hx hb dz_L_smallestUnused_58 rfl hl (by decide) rfl (fun ls hl => ?_)
              refine lv_aload hx hb dz_L_smallestUnused_59 (lv_at hl 1 rfl) ?_
              refine va_getN (D := (dC, dI)) (ci := 0) (v := .int (zb_Sz (zl_B S j))) (C := RzB) (T := TzB) (N := 9) hx hb hz inzB hown hK hP (j + 5) (zl_box hj) rfl 0 (by decide) (va_Nw.use rfl (hN _ zn_3)) (fun _ h9 => h9) rfl dz_L_smallestUnused_61 ?_
              refine lv_istore_n (lv' := [(3, .int (zb_Sz (zl_B S j))), (2, .int (nI (j + 1))), (5, .ref (zl_ab a j)), (4, .int (nI (j + 1))), (0, .ref h0), (1, .int p1)]) hx hb dz_L_smallestUnused_64 rfl hl (by decide) rfl (fun ls hl => ?_)
              refine lv_iinc (v := nI (j + 1 + 1)) (lv' := [(4, .int (nI (j + 1 + 1))), (3, .int (zb_Sz (zl_B S j))), (2, .int (nI (j + 1))), (5, .ref (zl_ab a j)), (0, .ref h0), (1, .int p1)]) hx hb dz_L_smallestUnused_65 hl (k := 3) rfl (nI_1 _) (by decide) rfl (fun ls hl => ?_)
              refine lv_goto (tgt := 8) hx hb dz_L_smallestUnused_68 (by decide) ?_
              exact ih (j + 1) (nI (j + 1)) (zb_Sz (zl_B S j)) ls (by omega) (by rw [hinv]; simp only [zl_su, if_neg c_5, if_neg c_6, if_neg c_7]) (lv_sub hl [0, 1, 2, 4, 5] rfl)
  exact loop (zl_n S) 0 0 6 ls (by omega) rfl (lv_sub hl [0, 1, 2, 3, 4] rfl)
end
section
set_option maxHeartbeats 4000000 in
set_option maxRecDepth 100000 in
theorem ct_L_wantedCode (l : Launch) (dC : Nat → ClassId) (dI : Nat → Nat → Nat) (cq ci : ClassId) (h0 : Nat) (a : zl_Ad) (S : zl_S) (hok : zl_ok S) (sz : Nat) : Met l yz_L_wantedCode wz_L_wantedCode (zw_room 2 0 0) (zw_U zw_ns (dC, dI) vwCl (zl_tys cq ci) [.ref h0] (zl_W cq ci h0 a S) sz) (va_Qi (fun (r : Int32) (_ : Unit) => r = (zl_wanted S).1) (fun (_ : Unit) (t : State) => va_P (dC, dI) vwCl (zl_W cq ci h0 a ((zl_wanted S).2)) t.heap ∧ va_D (va_A (zl_W cq ci h0 a S) sz) (zl_W cq ci h0 a ((zl_wanted S).2))) (va_A (zl_W cq ci h0 a S) sz)) 0 0 (va_A (zl_W cq ci h0 a S) sz) := by
  refine Met.ofW (cc := cz_L_wantedCode) (maxL := 3) (ret := (some .int)) (by decide) rfl ?_
  intro p e s m args below meth c s₁ B hml hv
  obtain ⟨rfl, hsz, hP, hK, hD0, hN⟩ := hv
  have hx := B.exec
  have hb := B.bytes
  have hr := B.returns
  have hts := atoms_spec (ws := wz_L_wantedCode) B.pre
  have hz : ∀ w ∈ zw_T, w.before ([.ref h0] : List Value).toArray s = true := fun w h => hts w (List.mem_cons_of_mem _ h)
  have hown : s.vm.findClass RzL = some m.cls := findClass_of_methodNamed B.named
  have hlocks := B.notSynchronized
  subst hsz
  have hD := hD0.self (sz := s.heap.size)
  generalize hAe : va_A (zl_W cq ci h0 a S) s.heap.size = A at hD ⊢
  have hA : ∀ q : Nat, s.heap.size ≤ q → A q := fun q h => by rw [← hAe]; exact Or.inr h
  have hS : va_S A s.heap s.heap [] := va_S.rf
  have hl := lv_entry ([.ref h0]) (n := 3) (Nat.le_of_ble_eq_true rfl)
  rw [lg_entry_eq]
  generalize (lg_sl ([.ref h0]) ++ List.replicate (3 - (lg_sl ([.ref h0])).length) Slot.unset).toArray = ls at hl ⊢
  have hl : lv_has ls 3 [(0, .ref h0)] := hl
  refine lv_iconst (v := nI 0) hx hb dz_L_wantedCode_0 (by decide) ?_
  refine lv_istore_n (lv' := [(1, .int (nI 0)), (0, .ref h0)]) hx hb dz_L_wantedCode_1 rfl hl (by decide) rfl (fun ls hl => ?_)
  have loop : ∀ (k j : Nat) (ls : Array Slot), j + k = (zl_P S).2 → zl_wc S (zl_P S).2 0 = zl_wc S k j → lv_has ls 3 [(1, .int (nI j)), (0, .ref h0)] → W p l e (headSpec wz_L_wantedCode (zw_room 2 0 0)).room s m ([.ref h0] : List Value).toArray below meth c s.heap [] 0 0 (MQ below (va_Qi (fun (r : Int32) (_ : Unit) => r = (zl_wanted S).1) (fun (_ : Unit) (t : State) => va_P (dC, dI) vwCl (zl_W cq ci h0 a ((zl_wanted S).2)) t.heap ∧ va_D A (zl_W cq ci h0 a ((zl_wanted S).2))) A) ([.ref h0] : List Value).toArray s 0 0 A) (F0 m 2 ls []) := by
    intro k
    induction k with
    | zero =>
      intro j ls hjk hinv hl
      refine lv_iload_n hx hb dz_L_wantedCode_2 rfl (lv_at hl 0 rfl) ?_
      refine lv_aload_n hx hb dz_L_wantedCode_3 rfl (lv_at hl 1 rfl) ?_
      refine va_get (D := (dC, dI)) (ci := 2) (v := .ref a.2.1) (C := RzL) (T := TzL) (N := 9) hx hb hz inzL hown hK hP 0 rfl rfl 2 (by decide) (hz _ zi_59) (fun _ h9 => h9) rfl dz_L_wantedCode_4 ?_
      refine vp_callSi (va_Run.run (va_runVN (As := []) (rest := [.int (nI j)]) ⟨hx, hb, hml, hown, hz⟩ (ct_T_length l dC dI cq ci a.2.1 a.2.2.1 (zl_P S) hok.2.1) ⟨va_cnB 0 hz (zw_g1 zi_115) rfl rfl rfl (hN _ zn_10) (hz _ zi_34) (by decide +kernel) ⟨Nat.le_of_ble_eq_true rfl, Nat.le_of_ble_eq_true rfl⟩, hz _ zi_114, hz _ zi_1⟩ (zw_preRV zw_ns_ok (hP.sub (ws' := zt_W ci a.2.1 a.2.2.1 (zl_P S)) [2, 3] rfl) hK hN (ci := 1) rfl (k := 0) rfl) rfl rfl hl.1 rfl (lv_room (Nat.le_of_ble_eq_true rfl)) dz_L_wantedCode_7 ⟨Nat.le_of_ble_eq_true rfl, Nat.le_of_ble_eq_true rfl⟩)) (fun r_1 hr_1 => ?_)
      have hr_1 : r_1 = zt_length (zl_P S) := hr_1
      subst hr_1
      refine lv_icmp_ge (tgt := 48) hx hb dz_L_wantedCode_10 (by decide) (fun c_2 => ?_) (fun c_2 => ?_)
      · refine lv_iconst (v := -1) hx hb dz_L_wantedCode_48 (by decide) ?_
        have hE_3 : zl_wanted S = ((-1), S) := by rw [zl_wanted, hinv]; rfl
        exact W.iret (v := (-1)) hx hb hr (fun t ht hW => ⟨⟨_, (), rfl, by show (-1) = (zl_wanted S).1; rw [hE_3], by show va_P (dC, dI) vwCl (zl_W cq ci h0 a ((zl_wanted S).2)) t.heap; rw [ht, hE_3]; exact hP, by show va_D A (zl_W cq ci h0 a ((zl_wanted S).2)); rw [hE_3]; exact hD⟩, hS.F ht⟩) hS.2.2 dz_L_wantedCode_49
      · exact absurd (nI_le (by omega) (by have := hok.2.1; omega)) c_2
    | succ k ih =>
      intro j ls hjk hinv hl
      have hj : j < (zl_P S).2 := by omega
      refine lv_iload_n hx hb dz_L_wantedCode_2 rfl (lv_at hl 0 rfl) ?_
      refine lv_aload_n hx hb dz_L_wantedCode_3 rfl (lv_at hl 1 rfl) ?_
      refine va_get (D := (dC, dI)) (ci := 2) (v := .ref a.2.1) (C := RzL) (T := TzL) (N := 9) hx hb hz inzL hown hK hP 0 rfl rfl 2 (by decide) (hz _ zi_59) (fun _ h9 => h9) rfl dz_L_wantedCode_4 ?_
      refine vp_callSi (va_Run.run (va_runVN (As := []) (rest := [.int (nI j)]) ⟨hx, hb, hml, hown, hz⟩ (ct_T_length l dC dI cq ci a.2.1 a.2.2.1 (zl_P S) hok.2.1) ⟨va_cnB 0 hz (zw_g1 zi_115) rfl rfl rfl (hN _ zn_10) (hz _ zi_34) (by decide +kernel) ⟨Nat.le_of_ble_eq_true rfl, Nat.le_of_ble_eq_true rfl⟩, hz _ zi_114, hz _ zi_1⟩ (zw_preRV zw_ns_ok (hP.sub (ws' := zt_W ci a.2.1 a.2.2.1 (zl_P S)) [2, 3] rfl) hK hN (ci := 1) rfl (k := 0) rfl) rfl rfl hl.1 rfl (lv_room (Nat.le_of_ble_eq_true rfl)) dz_L_wantedCode_7 ⟨Nat.le_of_ble_eq_true rfl, Nat.le_of_ble_eq_true rfl⟩)) (fun r_4 hr_4 => ?_)
      have hr_4 : r_4 = zt_length (zl_P S) := hr_4
      subst hr_4
      refine lv_icmp_ge (tgt := 48) hx hb dz_L_wantedCode_10 (by decide) (fun c_5 => ?_) (fun c_5 => ?_)
      · exact absurd c_5 (nI_ge hj (by have := hok.2.1; omega))
      · refine lv_aload_n hx hb dz_L_wantedCode_13 rfl (lv_at hl 1 rfl) ?_
        refine va_get (D := (dC, dI)) (ci := 2) (v := .ref a.2.1) (C := RzL) (T := TzL) (N := 9) hx hb hz inzL hown hK hP 0 rfl rfl 2 (by decide) (hz _ zi_59) (fun _ h9 => h9) rfl dz_L_wantedCode_14 ?_
        refine lv_iload_n hx hb dz_L_wantedCode_17 rfl (lv_at hl 0 rfl) ?_
        refine vp_callSi (va_Run.run (va_runVN (As := [.int (nI j)]) (rest := []) ⟨hx, hb, hml, hown, hz⟩ (ct_T_at l dC dI cq ci a.2.1 a.2.2.1 (zl_P S) hok.2.1 (nI j)) ⟨va_cnB 1 hz (zw_g1 zi_175) rfl rfl rfl (hN _ zn_17) (hz _ zi_34) (by decide +kernel) ⟨Nat.le_of_ble_eq_true rfl, Nat.le_of_ble_eq_true rfl⟩, hz _ zi_174, hz _ zi_17⟩ (zw_preRV zw_ns_ok (hP.sub (ws' := zt_W ci a.2.1 a.2.2.1 (zl_P S)) [2, 3] rfl) hK hN (ci := 1) rfl (k := 0) rfl) rfl rfl hl.1 rfl (lv_room (Nat.le_of_ble_eq_true rfl)) dz_L_wantedCode_18 ⟨Nat.le_of_ble_eq_true rfl, Nat.le_of_ble_eq_true rfl⟩)) (fun r_6 hr_6 => ?_)
        have hr_6 : r_6 = zt_at (zl_P S) (nI j) := hr_6
        subst hr_6
        refine lv_istore_n (lv' := [(2, .int (zt_at (zl_P S) (nI j))), (1, .int (nI j)), (0, .ref h0)]) hx hb dz_L_wantedCode_21 rfl hl (by decide) rfl (fun ls hl => ?_)
        refine lv_aload_n hx hb dz_L_wantedCode_22 rfl (lv_at hl 2 rfl) ?_
        refine lv_iload_n hx hb dz_L_wantedCode_23 rfl (lv_at hl 0 rfl) ?_
        refine vp_callSi (va_Run.run (va_runV (As := [.int (zt_at (zl_P S) (nI j))]) (rest := []) ⟨hx, hb, hml, hown, hz⟩ (ct_L_boxNumberOfCode l dC dI cq ci h0 a S hok (zt_at (zl_P S) (nI j))) (cwV 1 hz (zw_gV zi_176 zi_177 zi_18 zi_33 zi_178) rfl rfl rfl (by decide +kernel) ⟨Nat.le_of_ble_eq_true rfl, Nat.le_of_ble_eq_true rfl⟩) (zw_preRV zw_ns_ok hP hK hN (ci := 2) rfl (k := 0) rfl) rfl rfl hl.1 rfl (lv_room (Nat.le_of_ble_eq_true rfl)) dz_L_wantedCode_24 ⟨Nat.le_of_ble_eq_true rfl, Nat.le_of_ble_eq_true rfl⟩)) (fun r_7 hr_7 => ?_)
        have hr_7 : r_7 = zl_boxNumberOfCode S (zt_at (zl_P S) (nI j)) := hr_7
        subst hr_7
        refine lv_if_ne (tgt := 42) hx hb dz_L_wantedCode_27 (by decide) (fun c_8 => ?_) (fun c_8 => ?_)
        · refine lv_iinc (v := nI (j + 1)) (lv' := [(1, .int (nI (j + 1))), (2, .int (zt_at (zl_P S) (nI j))), (0, .ref h0)]) hx hb dz_L_wantedCode_42 hl (k := 1) rfl (nI_1 _) (by decide) rfl (fun ls hl => ?_)
          refine lv_goto (tgt := 2) hx hb dz_L_wantedCode_45 (by decide) ?_
          exact ih (j + 1) ls (by omega) (by rw [hinv]; simp only [zl_wc, if_neg c_8]) (lv_sub hl [0, 2] rfl)
        · refine lv_aload_n hx hb dz_L_wantedCode_30 rfl (lv_at hl 2 rfl) ?_
          refine va_get (D := (dC, dI)) (ci := 2) (v := .ref a.2.1) (C := RzL) (T := TzL) (N := 9) hx hb hz inzL hown hK hP 0 rfl rfl 2 (by decide) (hz _ zi_59) (fun _ h9 => h9) rfl dz_L_wantedCode_31 ?_
          refine lv_iload_n hx hb dz_L_wantedCode_34 rfl (lv_at hl 1 rfl) ?_
          refine lv_iconst (v := 1) hx hb dz_L_wantedCode_35 (by decide) ?_
          refine lv_iadd hx hb dz_L_wantedCode_36 ?_
          have hFc := zw_free hS hA (hD.sub (ws' := zt_W ci a.2.1 a.2.2.1 (zl_P S)) [2, 3] (by decide) rfl)
          refine va_callv (va_runVN (As := [.int ((nI j) + 1)]) (rest := []) ⟨hx, hb, hml, hown, hz⟩ (ct_T_dropFirst l dC dI cq ci a.2.1 a.2.2.1 (zl_P S) hok.2.1 s.heap.size ((nI j) + 1)) ⟨va_cnB 1 hz (zw_g1 zi_180) rfl rfl rfl (hN _ zn_19) (hz _ zi_34) (by decide +kernel) ⟨Nat.le_of_ble_eq_true rfl, Nat.le_of_ble_eq_true rfl⟩, hz _ zi_179, hz _ zi_19⟩ (zw_preUV zw_ns_ok (hP.sub (ws' := zt_W ci a.2.1 a.2.2.1 (zl_P S)) [2, 3] rfl) (hD.sub (ws' := zt_W ci a.2.1 a.2.2.1 (zl_P S)) [2, 3] (by decide) rfl) hK hN (ci := 1) rfl (k := 0) rfl) rfl rfl hl.1 rfl (lv_room (Nat.le_of_ble_eq_true rfl)) dz_L_wantedCode_37 ⟨Nat.le_of_ble_eq_true rfl, Nat.le_of_ble_eq_true rfl⟩) hS (fun q _ h => hFc q h) hFc (fun u_9 t_9 H locs ht hvm hw hB hz1 hk1 hS => ?_)
          have hB : va_P (dC, dI) vwCl (zt_W ci a.2.1 a.2.2.1 (zt_drop (zl_P S) ((nI j) + 1))) t_9.heap := hB
          rw [ht] at hB
          obtain ⟨hP, hD⟩ := zl_joinT hP hD hk1 hB
          obtain ⟨S_10, eS_10⟩ : ∃ z, z = zl_sP S (zt_drop (zl_P S) ((nI j) + 1)) := ⟨_, rfl⟩
          rw [← eS_10] at hP hD
          have hok : zl_ok S_10 := by rw [eS_10]; exact zl_ok_drop hok
          refine lv_iload_n hx hb dz_L_wantedCode_40 rfl (lv_at hl 0 rfl) ?_
          subst eS_10
          have hE_11 : zl_wanted S = (zt_at (zl_P S) (nI j), zl_sP S (zt_drop (zl_P S) ((nI j) + 1))) := by rw [zl_wanted, hinv]; simp only [zl_wc, if_pos c_8]
          exact W.iret (v := zt_at (zl_P S) (nI j)) hx hb hr (fun t ht hW => ⟨⟨_, (), rfl, by show zt_at (zl_P S) (nI j) = (zl_wanted S).1; rw [hE_11], by show va_P (dC, dI) vwCl (zl_W cq ci h0 a ((zl_wanted S).2)) t.heap; rw [ht, hE_11]; exact hP, by show va_D A (zl_W cq ci h0 a ((zl_wanted S).2)); rw [hE_11]; exact hD⟩, hS.F ht⟩) hS.2.2 dz_L_wantedCode_41
  exact loop (zl_P S).2 0 ls (by omega) rfl (lv_sub hl [0, 1] rfl)
set_option maxHeartbeats 4000000 in
set_option maxRecDepth 100000 in
theorem ct_L_countWrongTry (l : Launch) (dC : Nat → ClassId) (dI : Nat → Nat → Nat) (cq ci : ClassId) (h0 : Nat) (a : zl_Ad) (S : zl_S) (hok : zl_ok S) (sz : Nat) (p1 : Int64) : Met l yz_L_countWrongTry wz_L_countWrongTry (zw_room 0 0 0) (zw_U zw_ns (dC, dI) vwCl (zl_tys cq ci) [.ref h0, .long p1] (zl_W cq ci h0 a S) sz) (va_Qv (fun _ : Unit => True) (fun (_ : Unit) (t : State) => va_P (dC, dI) vwCl (zl_W cq ci h0 a (zl_wrong S p1)) t.heap ∧ va_D (va_A (zl_W cq ci h0 a S) sz) (zl_W cq ci h0 a (zl_wrong S p1))) (va_A (zl_W cq ci h0 a S) sz)) 0 0 (va_A (zl_W cq ci h0 a S) sz) := by
  refine Met.ofW (cc := cz_L_countWrongTry) (maxL := 3) (ret := none) (by decide) rfl ?_
  intro p e s m args below meth c s₁ B hml hv
  obtain ⟨rfl, hsz, hP, hK, hD0, hN⟩ := hv
  have hx := B.exec
  have hb := B.bytes
  have hr := B.returns
  have hts := atoms_spec (ws := wz_L_countWrongTry) B.pre
  have hz : ∀ w ∈ zw_T, w.before ([.ref h0, .long p1] : List Value).toArray s = true := fun w h => hts w (List.mem_cons_of_mem _ h)
  have hown : s.vm.findClass RzL = some m.cls := findClass_of_methodNamed B.named
  have hlocks := B.notSynchronized
  subst hsz
  have hD := hD0.self (sz := s.heap.size)
  generalize hAe : va_A (zl_W cq ci h0 a S) s.heap.size = A at hD ⊢
  have hA : ∀ q : Nat, s.heap.size ≤ q → A q := fun q h => by rw [← hAe]; exact Or.inr h
  have hS : va_S A s.heap s.heap [] := va_S.rf
  have hl := lv_entry ([.ref h0, .long p1]) (n := 3) (Nat.le_of_ble_eq_true rfl)
  rw [lg_entry_eq]
  generalize (lg_sl ([.ref h0, .long p1]) ++ List.replicate (3 - (lg_sl ([.ref h0, .long p1])).length) Slot.unset).toArray = ls at hl ⊢
  have hl : lv_has ls 3 [(0, .ref h0), (1, .long p1)] := hl
  refine lv_aload_n hx hb dz_L_countWrongTry_0 rfl (lv_at hl 0 rfl) ?_
  refine lv_dup hx hb dz_L_countWrongTry_1 rfl ?_
  refine va_get (D := (dC, dI)) (ci := 2) (v := .int (zl_R S)) (C := RzL) (T := TzL) (N := 9) hx hb hz inzL hown hK hP 0 rfl rfl 7 (by decide) (hz _ zi_64) (fun _ h9 => h9) rfl dz_L_countWrongTry_2 ?_
  refine lv_iconst (v := 1) hx hb dz_L_countWrongTry_5 (by decide) ?_
  refine lv_iadd hx hb dz_L_countWrongTry_6 ?_
  refine va_put (D := (dC, dI)) (ci := 2) (v := .int ((zl_R S) + 1)) (ty := .int) (C := RzL) (T := TzL) (N := 9) hx hb hz inzL tyzL tyzL_ok nmzL hown hK hP hD hS 0 rfl rfl 7 (by decide) (hz _ zi_64) (fun _ h9 => h9) rfl (by decide +kernel) rfl rfl (Nat.le_of_ble_eq_true rfl) dz_L_countWrongTry_7 (fun H locs hP hD hS => ?_)
  obtain ⟨S_1, eS_1⟩ : ∃ z, z = zl_sR S ((zl_R S) + 1) := ⟨_, rfl⟩
  have hP : va_P (dC, dI) vwCl (zl_W cq ci h0 a S_1) H := by rw [eS_1]; exact hP
  have hD : va_D A (zl_W cq ci h0 a S_1) := by rw [eS_1]; exact hD
  have hok : zl_ok S_1 := by rw [eS_1]; exact hok
  refine lv_aload_n hx hb dz_L_countWrongTry_10 rfl (lv_at hl 0 rfl) ?_
  refine va_get (D := (dC, dI)) (ci := 2) (v := .int (zl_R S_1)) (C := RzL) (T := TzL) (N := 9) hx hb hz inzL hown hK hP 0 rfl rfl 7 (by decide) (hz _ zi_64) (fun _ h9 => h9) rfl dz_L_countWrongTry_11 ?_
  refine lv_iconst (v := 3) hx hb dz_L_countWrongTry_14 (by decide) ?_
  refine lv_icmp_lt (tgt := 32) hx hb dz_L_countWrongTry_15 (by decide) (fun c_2 => ?_) (fun c_2 => ?_)
  · subst eS_1
    have hE_3 : zl_wrong S p1 = zl_sR S ((zl_R S) + 1) := by simp only [zl_wrong, if_pos c_2]
    exact W.vret hx hb hr (fun t ht hW => ⟨⟨(), rfl, trivial, by show va_P (dC, dI) vwCl (zl_W cq ci h0 a (zl_wrong S p1)) t.heap; rw [ht, hE_3]; exact hP, by show va_D A (zl_W cq ci h0 a (zl_wrong S p1)); rw [hE_3]; exact hD⟩, hS.F ht⟩) hS.2.2 dz_L_countWrongTry_32
  · refine lv_aload_n hx hb dz_L_countWrongTry_18 rfl (lv_at hl 0 rfl) ?_
    refine lv_iconst (v := 0) hx hb dz_L_countWrongTry_19 (by decide) ?_
    refine va_put (D := (dC, dI)) (ci := 2) (v := .int 0) (ty := .int) (C := RzL) (T := TzL) (N := 9) hx hb hz inzL tyzL tyzL_ok nmzL hown hK hP hD hS 0 rfl rfl 7 (by decide) (hz _ zi_64) (fun _ h9 => h9) rfl (by decide +kernel) rfl rfl (Nat.le_of_ble_eq_true rfl) dz_L_countWrongTry_20 (fun H locs hP hD hS => ?_)
    obtain ⟨S_4, eS_4⟩ : ∃ z, z = zl_sR S_1 0 := ⟨_, rfl⟩
    have hP : va_P (dC, dI) vwCl (zl_W cq ci h0 a S_4) H := by rw [eS_4]; exact hP
    have hD : va_D A (zl_W cq ci h0 a S_4) := by rw [eS_4]; exact hD
    have hok : zl_ok S_4 := by rw [eS_4]; exact hok
    refine lv_aload_n hx hb dz_L_countWrongTry_23 rfl (lv_at hl 0 rfl) ?_
    refine lv_lload_n hx hb dz_L_countWrongTry_24 rfl (lv_at hl 1 rfl) ?_
    refine lv_ldc2 (v := 300) hx hb hown (hz _ zi_193) dz_L_countWrongTry_25 ?_
    refine lv_ladd hx hb dz_L_countWrongTry_28 ?_
    refine va_put (D := (dC, dI)) (ci := 2) (v := .long (p1 + 300)) (ty := .long) (C := RzL) (T := TzL) (N := 9) hx hb hz inzL tyzL tyzL_ok nmzL hown hK hP hD hS 0 rfl rfl 8 (by decide) (hz _ zi_65) (fun _ h9 => h9) rfl (by decide +kernel) rfl rfl (Nat.le_of_ble_eq_true rfl) dz_L_countWrongTry_29 (fun H locs hP hD hS => ?_)
    obtain ⟨S_5, eS_5⟩ : ∃ z, z = zl_sK S_4 (p1 + 300) := ⟨_, rfl⟩
    have hP : va_P (dC, dI) vwCl (zl_W cq ci h0 a S_5) H := by rw [eS_5]; exact hP
    have hD : va_D A (zl_W cq ci h0 a S_5) := by rw [eS_5]; exact hD
    have hok : zl_ok S_5 := by rw [eS_5]; exact hok
    subst eS_1 eS_4 eS_5
    have hE_6 : zl_wrong S p1 = zl_sK (zl_sR (zl_sR S ((zl_R S) + 1)) 0) (p1 + 300) := by simp only [zl_wrong, if_neg c_2]
    exact W.vret hx hb hr (fun t ht hW => ⟨⟨(), rfl, trivial, by show va_P (dC, dI) vwCl (zl_W cq ci h0 a (zl_wrong S p1)) t.heap; rw [ht, hE_6]; exact hP, by show va_D A (zl_W cq ci h0 a (zl_wrong S p1)); rw [hE_6]; exact hD⟩, hS.F ht⟩) hS.2.2 dz_L_countWrongTry_32
set_option maxHeartbeats 4000000 in
set_option maxRecDepth 100000 in
theorem ct_L_noteFreed (l : Launch) (dC : Nat → ClassId) (dI : Nat → Nat → Nat) (cq ci : ClassId) (h0 : Nat) (a : zl_Ad) (S : zl_S) (hok : zl_ok S) (sz : Nat) (p1 : Int32) : Met l yz_L_noteFreed wz_L_noteFreed (zw_room 0 0 0) (zw_U zw_ns (dC, dI) vwCl (zl_tys cq ci) [.ref h0, .int p1] (zl_W cq ci h0 a S) sz) (va_Qv (fun _ : Unit => True) (fun (_ : Unit) (t : State) => va_P (dC, dI) vwCl (zl_W cq ci h0 a (zl_note S p1)) t.heap ∧ va_D (va_A (zl_W cq ci h0 a S) sz) (zl_W cq ci h0 a (zl_note S p1))) (va_A (zl_W cq ci h0 a S) sz)) 0 0 (va_A (zl_W cq ci h0 a S) sz) := by
  refine Met.ofW (cc := cz_L_noteFreed) (maxL := 2) (ret := none) (by decide) rfl ?_
  intro p e s m args below meth c s₁ B hml hv
  obtain ⟨rfl, hsz, hP, hK, hD0, hN⟩ := hv
  have hx := B.exec
  have hb := B.bytes
  have hr := B.returns
  have hts := atoms_spec (ws := wz_L_noteFreed) B.pre
  have hz : ∀ w ∈ zw_T, w.before ([.ref h0, .int p1] : List Value).toArray s = true := fun w h => hts w (List.mem_cons_of_mem _ h)
  have hown : s.vm.findClass RzL = some m.cls := findClass_of_methodNamed B.named
  have hlocks := B.notSynchronized
  subst hsz
  have hD := hD0.self (sz := s.heap.size)
  generalize hAe : va_A (zl_W cq ci h0 a S) s.heap.size = A at hD ⊢
  have hA : ∀ q : Nat, s.heap.size ≤ q → A q := fun q h => by rw [← hAe]; exact Or.inr h
  have hS : va_S A s.heap s.heap [] := va_S.rf
  have hl := lv_entry ([.ref h0, .int p1]) (n := 2) (Nat.le_of_ble_eq_true rfl)
  rw [lg_entry_eq]
  generalize (lg_sl ([.ref h0, .int p1]) ++ List.replicate (2 - (lg_sl ([.ref h0, .int p1])).length) Slot.unset).toArray = ls at hl ⊢
  have hl : lv_has ls 2 [(0, .ref h0), (1, .int p1)] := hl
  refine lv_aload_n hx hb dz_L_noteFreed_0 rfl (lv_at hl 0 rfl) ?_
  refine va_get (D := (dC, dI)) (ci := 2) (v := .int (nI (zl_k S))) (C := RzL) (T := TzL) (N := 9) hx hb hz inzL hown hK hP 0 rfl rfl 4 (by decide) (hz _ zi_61) (fun _ h9 => h9) rfl dz_L_noteFreed_1 ?_
  refine lv_bipush (v := 100) hx hb dz_L_noteFreed_4 (by decide) ?_
  refine lv_icmp_ge (tgt := 29) hx hb dz_L_noteFreed_6 (by decide) (fun c_1 => ?_) (fun c_1 => ?_)
  · have hE_2 : zl_note S p1 = S := by simp only [zl_note, if_pos c_1]
    exact W.vret hx hb hr (fun t ht hW => ⟨⟨(), rfl, trivial, by show va_P (dC, dI) vwCl (zl_W cq ci h0 a (zl_note S p1)) t.heap; rw [ht, hE_2]; exact hP, by show va_D A (zl_W cq ci h0 a (zl_note S p1)); rw [hE_2]; exact hD⟩, hS.F ht⟩) hS.2.2 dz_L_noteFreed_29
  · refine lv_aload_n hx hb dz_L_noteFreed_9 rfl (lv_at hl 0 rfl) ?_
    refine va_get (D := (dC, dI)) (ci := 2) (v := .ref a.2.2.2.1) (C := RzL) (T := TzL) (N := 9) hx hb hz inzL hown hK hP 0 rfl rfl 3 (by decide) (hz _ zi_60) (fun _ h9 => h9) rfl dz_L_noteFreed_10 ?_
    refine lv_aload_n hx hb dz_L_noteFreed_13 rfl (lv_at hl 0 rfl) ?_
    refine va_get (D := (dC, dI)) (ci := 2) (v := .int (nI (zl_k S))) (C := RzL) (T := TzL) (N := 9) hx hb hz inzL hown hK hP 0 rfl rfl 4 (by decide) (hz _ zi_61) (fun _ h9 => h9) rfl dz_L_noteFreed_14 ?_
    refine lv_iload_n hx hb dz_L_noteFreed_17 rfl (lv_at hl 1 rfl) ?_
    have hin_3 : vp_in (nI (zl_k S)) 100 := vp_in_nI (zl_lt100 hok c_1) (by omega)
    refine va_iast hx hb hK hP hD hS 4 1 rfl rfl hin_3 dz_L_noteFreed_18 (fun H locs hP hD hS => ?_)
    obtain ⟨S_4, eS_4⟩ : ∃ z, z = zl_sF S (upd (zl_F S) (nI (zl_k S)).toNatClampNeg p1) := ⟨_, rfl⟩
    have hP : va_P (dC, dI) vwCl (zl_W cq ci h0 a S_4) H := by rw [eS_4]; exact hP
    have hD : va_D A (zl_W cq ci h0 a S_4) := by rw [eS_4]; exact hD
    have hok : zl_ok S_4 := by rw [eS_4]; exact hok
    refine lv_aload_n hx hb dz_L_noteFreed_19 rfl (lv_at hl 0 rfl) ?_
    refine lv_dup hx hb dz_L_noteFreed_20 rfl ?_
    refine va_get (D := (dC, dI)) (ci := 2) (v := .int (nI (zl_k S_4))) (C := RzL) (T := TzL) (N := 9) hx hb hz inzL hown hK hP 0 rfl rfl 4 (by decide) (hz _ zi_61) (fun _ h9 => h9) rfl dz_L_noteFreed_21 ?_
    refine lv_iconst (v := 1) hx hb dz_L_noteFreed_24 (by decide) ?_
    refine lv_iadd hx hb dz_L_noteFreed_25 ?_
    refine W.eq (g2 := F0 m 26 ls [.int (nI (zl_k S_4 + 1)), .ref h0]) (congrArg (fun z => F0 m 26 ls (.int z :: [.ref h0])) (nI_1 _)) ?_
    refine va_put (D := (dC, dI)) (ci := 2) (v := .int (nI (zl_k S_4 + 1))) (ty := .int) (C := RzL) (T := TzL) (N := 9) hx hb hz inzL tyzL tyzL_ok nmzL hown hK hP hD hS 0 rfl rfl 4 (by decide) (hz _ zi_61) (fun _ h9 => h9) rfl (by decide +kernel) rfl rfl (Nat.le_of_ble_eq_true rfl) dz_L_noteFreed_26 (fun H locs hP hD hS => ?_)
    obtain ⟨S_5, eS_5⟩ : ∃ z, z = zl_sk S_4 (zl_k S_4 + 1) := ⟨_, rfl⟩
    have hP : va_P (dC, dI) vwCl (zl_W cq ci h0 a S_5) H := by rw [eS_5]; exact hP
    have hD : va_D A (zl_W cq ci h0 a S_5) := by rw [eS_5]; exact hD
    subst eS_4 eS_5
    have hE_6 : zl_note S p1 = zl_sk (zl_sF S (upd (zl_F S) (nI (zl_k S)).toNatClampNeg p1)) (zl_k (zl_sF S (upd (zl_F S) (nI (zl_k S)).toNatClampNeg p1)) + 1) := by simp only [zl_note, if_neg c_1]
    exact W.vret hx hb hr (fun t ht hW => ⟨⟨(), rfl, trivial, by show va_P (dC, dI) vwCl (zl_W cq ci h0 a (zl_note S p1)) t.heap; rw [ht, hE_6]; exact hP, by show va_D A (zl_W cq ci h0 a (zl_note S p1)); rw [hE_6]; exact hD⟩, hS.F ht⟩) hS.2.2 dz_L_noteFreed_29
set_option maxHeartbeats 4000000 in
set_option maxRecDepth 100000 in
theorem ct_L_passTo (l : Launch) (dC : Nat → ClassId) (dI : Nat → Nat → Nat) (cq ci : ClassId) (h0 : Nat) (a : zl_Ad) (S : zl_S) (hok : zl_ok S) (sz : Nat) (p1 : Int64) : Met l yz_L_passTo wz_L_passTo (zw_room 2 0 0) (zw_U zw_ns (dC, dI) vwCl (zl_tys cq ci) [.ref h0, .long p1] (zl_W cq ci h0 a S) sz) (va_Qv (fun _ : Unit => True) (fun (_ : Unit) (t : State) => va_P (dC, dI) vwCl (zl_W cq ci h0 a (zl_passTo S p1)) t.heap ∧ va_D (va_A (zl_W cq ci h0 a S) sz) (zl_W cq ci h0 a (zl_passTo S p1))) (va_A (zl_W cq ci h0 a S) sz)) 0 0 (va_A (zl_W cq ci h0 a S) sz) := by
  refine Met.ofW (cc := cz_L_passTo) (maxL := 5) (ret := none) (by decide) rfl ?_
  intro p e s m args below meth c s₁ B hml hv
  obtain ⟨rfl, hsz, hP, hK, hD0, hN⟩ := hv
  have hx := B.exec
  have hb := B.bytes
  have hr := B.returns
  have hts := atoms_spec (ws := wz_L_passTo) B.pre
  have hz : ∀ w ∈ zw_T, w.before ([.ref h0, .long p1] : List Value).toArray s = true := fun w h => hts w (List.mem_cons_of_mem _ h)
  have hown : s.vm.findClass RzL = some m.cls := findClass_of_methodNamed B.named
  have hlocks := B.notSynchronized
  subst hsz
  have hD := hD0.self (sz := s.heap.size)
  generalize hAe : va_A (zl_W cq ci h0 a S) s.heap.size = A at hD ⊢
  have hA : ∀ q : Nat, s.heap.size ≤ q → A q := fun q h => by rw [← hAe]; exact Or.inr h
  have hS : va_S A s.heap s.heap [] := va_S.rf
  have hl := lv_entry ([.ref h0, .long p1]) (n := 5) (Nat.le_of_ble_eq_true rfl)
  rw [lg_entry_eq]
  generalize (lg_sl ([.ref h0, .long p1]) ++ List.replicate (5 - (lg_sl ([.ref h0, .long p1])).length) Slot.unset).toArray = ls at hl ⊢
  have hl : lv_has ls 5 [(0, .ref h0), (1, .long p1)] := hl
  refine lv_aload_n hx hb dz_L_passTo_0 rfl (lv_at hl 0 rfl) ?_
  refine lv_lload_n hx hb dz_L_passTo_1 rfl (lv_at hl 1 rfl) ?_
  refine va_put (D := (dC, dI)) (ci := 2) (v := .long p1) (ty := .long) (C := RzL) (T := TzL) (N := 9) hx hb hz inzL tyzL tyzL_ok nmzL hown hK hP hD hS 0 rfl rfl 5 (by decide) (hz _ zi_62) (fun _ h9 => h9) rfl (by decide +kernel) rfl rfl (Nat.le_of_ble_eq_true rfl) dz_L_passTo_2 (fun H locs hP hD hS => ?_)
  obtain ⟨S_1, eS_1⟩ : ∃ z, z = zl_sT S p1 := ⟨_, rfl⟩
  have hP : va_P (dC, dI) vwCl (zl_W cq ci h0 a S_1) H := by rw [eS_1]; exact hP
  have hD : va_D A (zl_W cq ci h0 a S_1) := by rw [eS_1]; exact hD
  have hok : zl_ok S_1 := by rw [eS_1]; exact hok
  refine lv_iconst (v := nI (0 + 1)) hx hb dz_L_passTo_5 (by decide) ?_
  refine lv_istore_n (lv' := [(3, .int (nI (0 + 1))), (0, .ref h0), (1, .long p1)]) hx hb dz_L_passTo_6 rfl hl (by decide) rfl (fun ls hl => ?_)
  have loop : ∀ (k j : Nat) (S1 : zl_S) (H : Heap) (locs : List Loc) (ls : Array Slot), j + k = zl_n S1 → zl_ok S1 → zl_passTo S p1 = zl_pass p1 k j S1 → va_P (dC, dI) vwCl (zl_W cq ci h0 a S1) H → va_D A (zl_W cq ci h0 a S1) → va_S A s.heap H locs → lv_has ls 5 [(3, .int (nI (j + 1))), (0, .ref h0), (1, .long p1)] → W p l e (headSpec wz_L_passTo (zw_room 2 0 0)).room s m ([.ref h0, .long p1] : List Value).toArray below meth c H locs 0 0 (MQ below (va_Qv (fun _ : Unit => True) (fun (_ : Unit) (t : State) => va_P (dC, dI) vwCl (zl_W cq ci h0 a (zl_passTo S p1)) t.heap ∧ va_D A (zl_W cq ci h0 a (zl_passTo S p1))) A) ([.ref h0, .long p1] : List Value).toArray s 0 0 A) (F0 m 7 ls []) := by
    intro k
    induction k with
    | zero =>
      intro j S1 H locs ls hjk hok hinv hP hD hS hl
      refine lv_iload_n hx hb dz_L_passTo_7 rfl (lv_at hl 0 rfl) ?_
      refine lv_aload_n hx hb dz_L_passTo_8 rfl (lv_at hl 1 rfl) ?_
      refine va_get (D := (dC, dI)) (ci := 2) (v := .int (nI (zl_n S1))) (C := RzL) (T := TzL) (N := 9) hx hb hz inzL hown hK hP 0 rfl rfl 1 (by decide) (hz _ zi_58) (fun _ h9 => h9) rfl dz_L_passTo_9 ?_
      refine lv_icmp_gt (tgt := 62) hx hb dz_L_passTo_12 (by decide) (fun c_2 => ?_) (fun c_2 => ?_)
      · have hE_3 : zl_passTo S p1 = S1 := by rw [hinv]; rfl
        exact W.vret hx hb hr (fun t ht hW => ⟨⟨(), rfl, trivial, by show va_P (dC, dI) vwCl (zl_W cq ci h0 a (zl_passTo S p1)) t.heap; rw [ht, hE_3]; exact hP, by show va_D A (zl_W cq ci h0 a (zl_passTo S p1)); rw [hE_3]; exact hD⟩, hS.F ht⟩) hS.2.2 dz_L_passTo_62
      · exact absurd (nI_lt (by omega) (by have := hok.1; omega)) c_2
    | succ k ih =>
      intro j S1 H locs ls hjk hok hinv hP hD hS hl
      have hj : j < zl_n S1 := by omega
      refine lv_iload_n hx hb dz_L_passTo_7 rfl (lv_at hl 0 rfl) ?_
      refine lv_aload_n hx hb dz_L_passTo_8 rfl (lv_at hl 1 rfl) ?_
      refine va_get (D := (dC, dI)) (ci := 2) (v := .int (nI (zl_n S1))) (C := RzL) (T := TzL) (N := 9) hx hb hz inzL hown hK hP 0 rfl rfl 1 (by decide) (hz _ zi_58) (fun _ h9 => h9) rfl dz_L_passTo_9 ?_
      refine lv_icmp_gt (tgt := 62) hx hb dz_L_passTo_12 (by decide) (fun c_4 => ?_) (fun c_4 => ?_)
      · exact absurd c_4 (nI_nlt (by omega) (by have := hok.1; omega))
      · refine lv_aload_n hx hb dz_L_passTo_15 rfl (lv_at hl 1 rfl) ?_
        refine lv_iload_n hx hb dz_L_passTo_16 rfl (lv_at hl 0 rfl) ?_
        refine va_csq (va_Run.run (va_runV (As := [.int (nI (j + 1))]) (rest := []) ⟨hx, hb, hml, hown, hz⟩ (ct_L_boxAt l dC dI cq ci h0 a S1 hok (nI (j + 1))) (cwV 1 hz (zw_gV zi_124 zi_125 zi_3 zi_33 zi_126) rfl rfl rfl (by decide +kernel) ⟨Nat.le_of_ble_eq_true rfl, Nat.le_of_ble_eq_true rfl⟩) (zw_preRV zw_ns_ok hP hK hN (ci := 2) rfl (k := 0) rfl) rfl rfl hl.1 rfl (lv_room (Nat.le_of_ble_eq_true rfl)) dz_L_passTo_17 ⟨Nat.le_of_ble_eq_true rfl, Nat.le_of_ble_eq_true rfl⟩)) (fun r_5 hr_5 => ?_)
        have hr_5 : r_5 = Option.map (zl_ab a) (zl_boxAt S1 (nI (j + 1))) := hr_5
        rw [zl_boxAt_nI hok hj] at hr_5
        subst hr_5
        refine W.eq (g2 := F0 m 20 ls [.ref (zl_ab a j)]) rfl ?_
        refine lv_astore (lv' := [(4, .ref (zl_ab a j)), (3, .int (nI (j + 1))), (0, .ref h0), (1, .long p1)]) hx hb dz_L_passTo_20 hl (by decide) rfl (fun ls hl => ?_)
        refine lv_aload hx hb dz_L_passTo_22 (lv_at hl 0 rfl) ?_
        refine lv_ifnull hx hb dz_L_passTo_24 ?_
        refine lv_aload hx hb dz_L_passTo_27 (lv_at hl 0 rfl) ?_
        refine lv_lload_n hx hb dz_L_passTo_29 rfl (lv_at hl 3 rfl) ?_
        have hFc := zw_free hS hA (show va_D A (zb_W (zl_ab a j) (zl_B S1 j)) from zw_D1 hD (zl_box hj))
        refine va_calli (va_runVN (As := [.long p1]) (rest := []) ⟨hx, hb, hml, hown, hz⟩ (ct_B_freeIfDue l dC dI cq ci (zl_ab a j) (zl_B S1 j) H.size p1) ⟨va_cnB 1 hz (zw_g1 zi_146) rfl rfl rfl (hN _ zn_12) (hz _ zi_36) (by decide +kernel) ⟨Nat.le_of_ble_eq_true rfl, Nat.le_of_ble_eq_true rfl⟩, hz _ zi_145, hz _ zi_8⟩ (zw_preUV zw_ns_ok (show va_P (dC, dI) vwCl (zb_W (zl_ab a j) (zl_B S1 j)) H from zw_P1 hP (zl_box hj)) (show va_D A (zb_W (zl_ab a j) (zl_B S1 j)) from zw_D1 hD (zl_box hj)) hK hN (ci := 0) rfl (k := 0) rfl) rfl rfl hl.1 rfl (lv_room (Nat.le_of_ble_eq_true rfl)) dz_L_passTo_30 ⟨Nat.le_of_ble_eq_true rfl, Nat.le_of_ble_eq_true rfl⟩) hS (fun q _ h => hFc q h) hFc (fun r_6 u_6 t_6 H locs ht hvm hw hB hz1 hk1 hS => ?_)
        have hw : r_6 = (zb_free (zl_B S1 j) p1).1 := hw
        subst hw
        have hB : va_P (dC, dI) vwCl (zb_W (zl_ab a j) ((zb_free (zl_B S1 j) p1).2)) t_6.heap := hB
        rw [ht] at hB
        obtain ⟨hP, hD⟩ := zl_joinB hj hP hD hk1 hB
        obtain ⟨S_7, eS_7⟩ : ∃ z, z = zl_sB S1 j ((zb_free (zl_B S1 j) p1).2) := ⟨_, rfl⟩
        rw [← eS_7] at hP hD
        have hok : zl_ok S_7 := by rw [eS_7]; exact hok
        have hj : j < zl_n S_7 := by rw [eS_7]; exact hj
        have hjk : j + (k + 1) = zl_n S_7 := by rw [eS_7]; exact hjk
        refine lv_if_eq (tgt := 41) hx hb dz_L_passTo_33 (by decide) (fun c_8 => ?_) (fun c_8 => ?_)
        · refine lv_aload_n hx hb dz_L_passTo_41 rfl (lv_at hl 2 rfl) ?_
          refine lv_dup hx hb dz_L_passTo_42 rfl ?_
          refine va_get (D := (dC, dI)) (ci := 2) (v := .int (zl_A S_7)) (C := RzL) (T := TzL) (N := 9) hx hb hz inzL hown hK hP 0 rfl rfl 6 (by decide) (hz _ zi_63) (fun _ h9 => h9) rfl dz_L_passTo_43 ?_
          refine lv_aload hx hb dz_L_passTo_46 (lv_at hl 0 rfl) ?_
          refine lv_lload_n hx hb dz_L_passTo_48 rfl (lv_at hl 3 rfl) ?_
          have hFc := zw_free hS hA (show va_D A (zb_W (zl_ab a j) (zl_B S_7 j)) from zw_D1 hD (zl_box hj))
          refine va_calli (va_runVN (As := [.long p1]) (rest := [.int (zl_A S_7), .ref h0]) ⟨hx, hb, hml, hown, hz⟩ (ct_B_tellAlarms l dC dI cq ci (zl_ab a j) (zl_B S_7 j) H.size p1) ⟨va_cnB 1 hz (zw_g1 zi_151) rfl rfl rfl (hN _ zn_13) (hz _ zi_36) (by decide +kernel) ⟨Nat.le_of_ble_eq_true rfl, Nat.le_of_ble_eq_true rfl⟩, hz _ zi_150, hz _ zi_10⟩ (zw_preUV zw_ns_ok (show va_P (dC, dI) vwCl (zb_W (zl_ab a j) (zl_B S_7 j)) H from zw_P1 hP (zl_box hj)) (show va_D A (zb_W (zl_ab a j) (zl_B S_7 j)) from zw_D1 hD (zl_box hj)) hK hN (ci := 0) rfl (k := 0) rfl) rfl rfl hl.1 rfl (lv_room (Nat.le_of_ble_eq_true rfl)) dz_L_passTo_49 ⟨Nat.le_of_ble_eq_true rfl, Nat.le_of_ble_eq_true rfl⟩) hS (fun q _ h => hFc q h) hFc (fun r_9 u_9 t_9 H locs ht hvm hw hB hz1 hk1 hS => ?_)
          have hw : r_9 = (zb_tell (zl_B S_7 j) p1).1 := hw
          subst hw
          have hB : va_P (dC, dI) vwCl (zb_W (zl_ab a j) ((zb_tell (zl_B S_7 j) p1).2)) t_9.heap := hB
          rw [ht] at hB
          obtain ⟨hP, hD⟩ := zl_joinB hj hP hD hk1 hB
          obtain ⟨S_10, eS_10⟩ : ∃ z, z = zl_sB S_7 j ((zb_tell (zl_B S_7 j) p1).2) := ⟨_, rfl⟩
          rw [← eS_10] at hP hD
          have hok : zl_ok S_10 := by rw [eS_10]; exact hok
          have hj : j < zl_n S_10 := by rw [eS_10]; exact hj
          have hjk : j + (k + 1) = zl_n S_10 := by rw [eS_10]; exact hjk
          refine lv_iadd hx hb dz_L_passTo_52 ?_
          refine va_put (D := (dC, dI)) (ci := 2) (v := .int ((zl_A S_7) + ((zb_tell (zl_B S_7 j) p1).1))) (ty := .int) (C := RzL) (T := TzL) (N := 9) hx hb hz inzL tyzL tyzL_ok nmzL hown hK hP hD hS 0 rfl rfl 6 (by decide) (hz _ zi_63) (fun _ h9 => h9) rfl (by decide +kernel) rfl rfl (Nat.le_of_ble_eq_true rfl) dz_L_passTo_53 (fun H locs hP hD hS => ?_)
          obtain ⟨S_11, eS_11⟩ : ∃ z, z = zl_sA S_10 ((zl_A S_7) + ((zb_tell (zl_B S_7 j) p1).1)) := ⟨_, rfl⟩
          have hP : va_P (dC, dI) vwCl (zl_W cq ci h0 a S_11) H := by rw [eS_11]; exact hP
          have hD : va_D A (zl_W cq ci h0 a S_11) := by rw [eS_11]; exact hD
          have hok : zl_ok S_11 := by rw [eS_11]; exact hok
          have hj : j < zl_n S_11 := by rw [eS_11]; exact hj
          have hjk : j + (k + 1) = zl_n S_11 := by rw [eS_11]; exact hjk
          refine lv_iinc (v := nI (j + 1 + 1)) (lv' := [(3, .int (nI (j + 1 + 1))), (4, .ref (zl_ab a j)), (0, .ref h0), (1, .long p1)]) hx hb dz_L_passTo_56 hl (k := 1) rfl (nI_1 _) (by decide) rfl (fun ls hl => ?_)
          refine lv_goto (tgt := 7) hx hb dz_L_passTo_59 (by decide) ?_
          exact ih (j + 1) S_11 H locs ls (by have h9 : j + (k + 1) = zl_n S_11 := hjk; omega) hok (by subst eS_7 eS_10 eS_11; rw [hinv]; simp only [zl_pass, zl_step, if_pos c_8]) hP hD hS (lv_sub hl [0, 2, 3] rfl)
        · refine lv_aload_n hx hb dz_L_passTo_36 rfl (lv_at hl 2 rfl) ?_
          refine lv_iload_n hx hb dz_L_passTo_37 rfl (lv_at hl 1 rfl) ?_
          have hFc := zw_free hS hA hD
          refine va_callv (va_runV (As := [.int (nI (j + 1))]) (rest := []) ⟨hx, hb, hml, hown, hz⟩ (ct_L_noteFreed l dC dI cq ci h0 a S_7 hok H.size (nI (j + 1))) (cwV 1 hz (zw_gV zi_147 zi_148 zi_9 zi_33 zi_149) rfl rfl rfl (by decide +kernel) ⟨Nat.le_of_ble_eq_true rfl, Nat.le_of_ble_eq_true rfl⟩) (zw_preUV zw_ns_ok hP hD hK hN (ci := 2) rfl (k := 0) rfl) rfl rfl hl.1 rfl (lv_room (Nat.le_of_ble_eq_true rfl)) dz_L_passTo_38 ⟨Nat.le_of_ble_eq_true rfl, Nat.le_of_ble_eq_true rfl⟩) hS (fun q _ h => hFc q h) hFc (fun u_12 t_12 H locs ht hvm hw hB hz1 hk1 hS => ?_)
          obtain ⟨hP, hD⟩ := hB
          rw [ht] at hP
          have hD := hD.weaken (fun _ q _ h => hFc q.1 h)
          obtain ⟨S_13, eS_13⟩ : ∃ z, z = (zl_note S_7 (nI (j + 1))) := ⟨_, rfl⟩
          rw [← eS_13] at hP hD
          have hok : zl_ok S_13 := by rw [eS_13]; exact zl_ok_note hok
          have hj : j < zl_n S_13 := by rw [eS_13, zl_n_note]; exact hj
          have hjk : j + (k + 1) = zl_n S_13 := by rw [eS_13, zl_n_note]; exact hjk
          refine lv_aload_n hx hb dz_L_passTo_41 rfl (lv_at hl 2 rfl) ?_
          refine lv_dup hx hb dz_L_passTo_42 rfl ?_
          refine va_get (D := (dC, dI)) (ci := 2) (v := .int (zl_A S_13)) (C := RzL) (T := TzL) (N := 9) hx hb hz inzL hown hK hP 0 rfl rfl 6 (by decide) (hz _ zi_63) (fun _ h9 => h9) rfl dz_L_passTo_43 ?_
          refine lv_aload hx hb dz_L_passTo_46 (lv_at hl 0 rfl) ?_
          refine lv_lload_n hx hb dz_L_passTo_48 rfl (lv_at hl 3 rfl) ?_
          have hFc := zw_free hS hA (show va_D A (zb_W (zl_ab a j) (zl_B S_13 j)) from zw_D1 hD (zl_box hj))
          refine va_calli (va_runVN (As := [.long p1]) (rest := [.int (zl_A S_13), .ref h0]) ⟨hx, hb, hml, hown, hz⟩ (ct_B_tellAlarms l dC dI cq ci (zl_ab a j) (zl_B S_13 j) H.size p1) ⟨va_cnB 1 hz (zw_g1 zi_151) rfl rfl rfl (hN _ zn_13) (hz _ zi_36) (by decide +kernel) ⟨Nat.le_of_ble_eq_true rfl, Nat.le_of_ble_eq_true rfl⟩, hz _ zi_150, hz _ zi_10⟩ (zw_preUV zw_ns_ok (show va_P (dC, dI) vwCl (zb_W (zl_ab a j) (zl_B S_13 j)) H from zw_P1 hP (zl_box hj)) (show va_D A (zb_W (zl_ab a j) (zl_B S_13 j)) from zw_D1 hD (zl_box hj)) hK hN (ci := 0) rfl (k := 0) rfl) rfl rfl hl.1 rfl (lv_room (Nat.le_of_ble_eq_true rfl)) dz_L_passTo_49 ⟨Nat.le_of_ble_eq_true rfl, Nat.le_of_ble_eq_true rfl⟩) hS (fun q _ h => hFc q h) hFc (fun r_14 u_14 t_14 H locs ht hvm hw hB hz1 hk1 hS => ?_)
          have hw : r_14 = (zb_tell (zl_B S_13 j) p1).1 := hw
          subst hw
          have hB : va_P (dC, dI) vwCl (zb_W (zl_ab a j) ((zb_tell (zl_B S_13 j) p1).2)) t_14.heap := hB
          rw [ht] at hB
          obtain ⟨hP, hD⟩ := zl_joinB hj hP hD hk1 hB
          obtain ⟨S_15, eS_15⟩ : ∃ z, z = zl_sB S_13 j ((zb_tell (zl_B S_13 j) p1).2) := ⟨_, rfl⟩
          rw [← eS_15] at hP hD
          have hok : zl_ok S_15 := by rw [eS_15]; exact hok
          have hj : j < zl_n S_15 := by rw [eS_15]; exact hj
          have hjk : j + (k + 1) = zl_n S_15 := by rw [eS_15]; exact hjk
          refine lv_iadd hx hb dz_L_passTo_52 ?_
          refine va_put (D := (dC, dI)) (ci := 2) (v := .int ((zl_A S_13) + ((zb_tell (zl_B S_13 j) p1).1))) (ty := .int) (C := RzL) (T := TzL) (N := 9) hx hb hz inzL tyzL tyzL_ok nmzL hown hK hP hD hS 0 rfl rfl 6 (by decide) (hz _ zi_63) (fun _ h9 => h9) rfl (by decide +kernel) rfl rfl (Nat.le_of_ble_eq_true rfl) dz_L_passTo_53 (fun H locs hP hD hS => ?_)
          obtain ⟨S_16, eS_16⟩ : ∃ z, z = zl_sA S_15 ((zl_A S_13) + ((zb_tell (zl_B S_13 j) p1).1)) := ⟨_, rfl⟩
          have hP : va_P (dC, dI) vwCl (zl_W cq ci h0 a S_16) H := by rw [eS_16]; exact hP
          have hD : va_D A (zl_W cq ci h0 a S_16) := by rw [eS_16]; exact hD
          have hok : zl_ok S_16 := by rw [eS_16]; exact hok
          have hj : j < zl_n S_16 := by rw [eS_16]; exact hj
          have hjk : j + (k + 1) = zl_n S_16 := by rw [eS_16]; exact hjk
          refine lv_iinc (v := nI (j + 1 + 1)) (lv' := [(3, .int (nI (j + 1 + 1))), (4, .ref (zl_ab a j)), (0, .ref h0), (1, .long p1)]) hx hb dz_L_passTo_56 hl (k := 1) rfl (nI_1 _) (by decide) rfl (fun ls hl => ?_)
          refine lv_goto (tgt := 7) hx hb dz_L_passTo_59 (by decide) ?_
          exact ih (j + 1) S_16 H locs ls (by have h9 : j + (k + 1) = zl_n S_16 := hjk; omega) hok (by subst eS_7 eS_13 eS_15 eS_16; rw [hinv]; simp only [zl_pass, zl_step, if_neg c_8]) hP hD hS (lv_sub hl [0, 2, 3] rfl)
  exact loop (zl_n S) 0 S_1 H locs ls (by rw [eS_1]; show 0 + zl_n S = zl_n S; omega) hok (by rw [eS_1]; rfl) hP hD hS (lv_sub hl [0, 1, 2] rfl)
end
section
set_option maxHeartbeats 4000000 in
set_option maxRecDepth 100000 in
theorem ct_L_tape (l : Launch) (dC : Nat → ClassId) (dI : Nat → Nat → Nat) (cq ci : ClassId) (h0 : Nat) (a : zl_Ad) (S : zl_S) (hok : zl_ok S) (sz : Nat) (p1 : Int32) : Met l yz_L_tape wz_L_tape (zw_room 1 0 0) (zw_U zw_ns (dC, dI) vwCl (zl_tys cq ci) [.ref h0, .int p1] (zl_W cq ci h0 a S) sz) (va_Qi (fun (r : Int32) (_ : Unit) => r = (zl_tape S p1).1) (fun (_ : Unit) (t : State) => va_P (dC, dI) vwCl (zl_W cq ci h0 a ((zl_tape S p1).2)) t.heap ∧ va_D (va_A (zl_W cq ci h0 a S) sz) (zl_W cq ci h0 a ((zl_tape S p1).2))) (va_A (zl_W cq ci h0 a S) sz)) 0 0 (va_A (zl_W cq ci h0 a S) sz) := by
  refine Met.ofW (cc := cz_L_tape) (maxL := 2) (ret := (some .int)) (by decide) rfl ?_
  intro p e s m args below meth c s₁ B hml hv
  obtain ⟨rfl, hsz, hP, hK, hD0, hN⟩ := hv
  have hx := B.exec
  have hb := B.bytes
  have hr := B.returns
  have hts := atoms_spec (ws := wz_L_tape) B.pre
  have hz : ∀ w ∈ zw_T, w.before ([.ref h0, .int p1] : List Value).toArray s = true := fun w h => hts w (List.mem_cons_of_mem _ h)
  have hown : s.vm.findClass RzL = some m.cls := findClass_of_methodNamed B.named
  have hlocks := B.notSynchronized
  subst hsz
  have hD := hD0.self (sz := s.heap.size)
  generalize hAe : va_A (zl_W cq ci h0 a S) s.heap.size = A at hD ⊢
  have hA : ∀ q : Nat, s.heap.size ≤ q → A q := fun q h => by rw [← hAe]; exact Or.inr h
  have hS : va_S A s.heap s.heap [] := va_S.rf
  have hl := lv_entry ([.ref h0, .int p1]) (n := 2) (Nat.le_of_ble_eq_true rfl)
  rw [lg_entry_eq]
  generalize (lg_sl ([.ref h0, .int p1]) ++ List.replicate (2 - (lg_sl ([.ref h0, .int p1])).length) Slot.unset).toArray = ls at hl ⊢
  have hl : lv_has ls 2 [(0, .ref h0), (1, .int p1)] := hl
  refine lv_iload_n hx hb dz_L_tape_0 rfl (lv_at hl 1 rfl) ?_
  refine vp_callSi (va_Run.run (va_runS (As := [.int p1]) (rest := []) ⟨hx, hb, hml, hown, hz⟩ (ct_L_isCode l dC dI cq ci p1) (cwS 1 hz (zw_gS zi_108 zi_109 zi_33 zi_110) rfl rfl rfl (by decide +kernel) ⟨Nat.le_of_ble_eq_true rfl, Nat.le_of_ble_eq_true rfl⟩) (zw_preR zw_ns_ok (ws := []) (fun k q h => by simp at h) hK hN) rfl rfl hl.1 rfl (lv_room (Nat.le_of_ble_eq_true rfl)) dz_L_tape_1 ⟨Nat.le_of_ble_eq_true rfl, Nat.le_of_ble_eq_true rfl⟩)) (fun r_1 hr_1 => ?_)
  have hr_1 : r_1 = zl_isCode p1 := hr_1
  subst hr_1
  refine lv_if_ne (tgt := 10) hx hb dz_L_tape_4 (by decide) (fun c_2 => ?_) (fun c_2 => ?_)
  · refine lv_aload_n hx hb dz_L_tape_10 rfl (lv_at hl 0 rfl) ?_
    refine va_get (D := (dC, dI)) (ci := 2) (v := .ref a.2.1) (C := RzL) (T := TzL) (N := 9) hx hb hz inzL hown hK hP 0 rfl rfl 2 (by decide) (hz _ zi_59) (fun _ h9 => h9) rfl dz_L_tape_11 ?_
    refine lv_iload_n hx hb dz_L_tape_14 rfl (lv_at hl 1 rfl) ?_
    have hFc := zw_free hS hA (hD.sub (ws' := zt_W ci a.2.1 a.2.2.1 (zl_P S)) [2, 3] (by decide) rfl)
    refine va_calli (va_runVN (As := [.int p1]) (rest := []) ⟨hx, hb, hml, hown, hz⟩ (ct_T_append l dC dI cq ci a.2.1 a.2.2.1 (zl_P S) hok.2.1 s.heap.size p1) ⟨va_cnB 1 hz (zw_g1 zi_113) rfl rfl rfl (hN _ zn_9) (hz _ zi_34) (by decide +kernel) ⟨Nat.le_of_ble_eq_true rfl, Nat.le_of_ble_eq_true rfl⟩, hz _ zi_112, hz _ zi_0⟩ (zw_preUV zw_ns_ok (hP.sub (ws' := zt_W ci a.2.1 a.2.2.1 (zl_P S)) [2, 3] rfl) (hD.sub (ws' := zt_W ci a.2.1 a.2.2.1 (zl_P S)) [2, 3] (by decide) rfl) hK hN (ci := 1) rfl (k := 0) rfl) rfl rfl hl.1 rfl (lv_room (Nat.le_of_ble_eq_true rfl)) dz_L_tape_15 ⟨Nat.le_of_ble_eq_true rfl, Nat.le_of_ble_eq_true rfl⟩) hS (fun q _ h => hFc q h) hFc (fun r_3 u_3 t_3 H locs ht hvm hw hB hz1 hk1 hS => ?_)
    have hw : r_3 = (zt_append (zl_P S) p1).1 := hw
    subst hw
    have hB : va_P (dC, dI) vwCl (zt_W ci a.2.1 a.2.2.1 ((zt_append (zl_P S) p1).2)) t_3.heap := hB
    rw [ht] at hB
    obtain ⟨hP, hD⟩ := zl_joinT hP hD hk1 hB
    obtain ⟨S_4, eS_4⟩ : ∃ z, z = zl_sP S ((zt_append (zl_P S) p1).2) := ⟨_, rfl⟩
    rw [← eS_4] at hP hD
    have hok : zl_ok S_4 := by rw [eS_4]; exact zl_ok_append hok
    refine lv_if_eq (tgt := 31) hx hb dz_L_tape_18 (by decide) (fun c_5 => ?_) (fun c_5 => ?_)
    · refine lv_bipush (v := -14) hx hb dz_L_tape_31 (by decide) ?_
      subst eS_4
      have hE_6 : zl_tape S p1 = ((-14), zl_sP S ((zt_append (zl_P S) p1).2)) := by simp only [zl_tape, if_neg c_2, if_pos c_5]
      exact W.iret (v := (-14)) hx hb hr (fun t ht hW => ⟨⟨_, (), rfl, by show (-14) = (zl_tape S p1).1; rw [hE_6], by show va_P (dC, dI) vwCl (zl_W cq ci h0 a ((zl_tape S p1).2)) t.heap; rw [ht, hE_6]; exact hP, by show va_D A (zl_W cq ci h0 a ((zl_tape S p1).2)); rw [hE_6]; exact hD⟩, hS.F ht⟩) hS.2.2 dz_L_tape_33
    · refine lv_aload_n hx hb dz_L_tape_21 rfl (lv_at hl 0 rfl) ?_
      refine va_get (D := (dC, dI)) (ci := 2) (v := .ref a.2.1) (C := RzL) (T := TzL) (N := 9) hx hb hz inzL hown hK hP 0 rfl rfl 2 (by decide) (hz _ zi_59) (fun _ h9 => h9) rfl dz_L_tape_22 ?_
      refine vp_callSi (va_Run.run (va_runVN (As := []) (rest := []) ⟨hx, hb, hml, hown, hz⟩ (ct_T_length l dC dI cq ci a.2.1 a.2.2.1 (zl_P S_4) hok.2.1) ⟨va_cnB 0 hz (zw_g1 zi_115) rfl rfl rfl (hN _ zn_10) (hz _ zi_34) (by decide +kernel) ⟨Nat.le_of_ble_eq_true rfl, Nat.le_of_ble_eq_true rfl⟩, hz _ zi_114, hz _ zi_1⟩ (zw_preRV zw_ns_ok (hP.sub (ws' := zt_W ci a.2.1 a.2.2.1 (zl_P S_4)) [2, 3] rfl) hK hN (ci := 1) rfl (k := 0) rfl) rfl rfl hl.1 rfl (lv_room (Nat.le_of_ble_eq_true rfl)) dz_L_tape_25 ⟨Nat.le_of_ble_eq_true rfl, Nat.le_of_ble_eq_true rfl⟩)) (fun r_7 hr_7 => ?_)
      have hr_7 : r_7 = zt_length (zl_P S_4) := hr_7
      subst hr_7
      refine lv_goto (tgt := 33) hx hb dz_L_tape_28 (by decide) ?_
      subst eS_4
      have hE_8 : zl_tape S p1 = (zt_length (zl_P (zl_sP S ((zt_append (zl_P S) p1).2))), zl_sP S ((zt_append (zl_P S) p1).2)) := by simp only [zl_tape, if_neg c_2, if_neg c_5]
      exact W.iret (v := zt_length (zl_P (zl_sP S ((zt_append (zl_P S) p1).2)))) hx hb hr (fun t ht hW => ⟨⟨_, (), rfl, by show zt_length (zl_P (zl_sP S ((zt_append (zl_P S) p1).2))) = (zl_tape S p1).1; rw [hE_8], by show va_P (dC, dI) vwCl (zl_W cq ci h0 a ((zl_tape S p1).2)) t.heap; rw [ht, hE_8]; exact hP, by show va_D A (zl_W cq ci h0 a ((zl_tape S p1).2)); rw [hE_8]; exact hD⟩, hS.F ht⟩) hS.2.2 dz_L_tape_33
  · refine lv_bipush (v := -12) hx hb dz_L_tape_7 (by decide) ?_
    have hE_9 : zl_tape S p1 = ((-12), S) := by simp only [zl_tape, if_pos c_2]
    exact W.iret (v := (-12)) hx hb hr (fun t ht hW => ⟨⟨_, (), rfl, by show (-12) = (zl_tape S p1).1; rw [hE_9], by show va_P (dC, dI) vwCl (zl_W cq ci h0 a ((zl_tape S p1).2)) t.heap; rw [ht, hE_9]; exact hP, by show va_D A (zl_W cq ci h0 a ((zl_tape S p1).2)); rw [hE_9]; exact hD⟩, hS.F ht⟩) hS.2.2 dz_L_tape_9
set_option maxHeartbeats 4000000 in
set_option maxRecDepth 100000 in
theorem ct_L_reserve (l : Launch) (dC : Nat → ClassId) (dI : Nat → Nat → Nat) (cq ci : ClassId) (h0 : Nat) (a : zl_Ad) (S : zl_S) (hok : zl_ok S) (sz : Nat) (p1 : Int32) (p2 : Int64) : Met l yz_L_reserve wz_L_reserve (zw_room 3 0 0) (zw_U zw_ns (dC, dI) vwCl (zl_tys cq ci) [.ref h0, .int p1, .long p2] (zl_W cq ci h0 a S) sz) (va_Qi (fun (r : Int32) (_ : Unit) => r = (zl_reserve S p1 p2).1) (fun (_ : Unit) (t : State) => va_P (dC, dI) vwCl (zl_W cq ci h0 a ((zl_reserve S p1 p2).2)) t.heap ∧ va_D (va_A (zl_W cq ci h0 a S) sz) (zl_W cq ci h0 a ((zl_reserve S p1 p2).2))) (va_A (zl_W cq ci h0 a S) sz)) 0 0 (va_A (zl_W cq ci h0 a S) sz) := by
  refine Met.ofW (cc := cz_L_reserve) (maxL := 6) (ret := (some .int)) (by decide) rfl ?_
  intro p e s m args below meth c s₁ B hml hv
  obtain ⟨rfl, hsz, hP, hK, hD0, hN⟩ := hv
  have hx := B.exec
  have hb := B.bytes
  have hr := B.returns
  have hts := atoms_spec (ws := wz_L_reserve) B.pre
  have hz : ∀ w ∈ zw_T, w.before ([.ref h0, .int p1, .long p2] : List Value).toArray s = true := fun w h => hts w (List.mem_cons_of_mem _ h)
  have hown : s.vm.findClass RzL = some m.cls := findClass_of_methodNamed B.named
  have hlocks := B.notSynchronized
  subst hsz
  have hD := hD0.self (sz := s.heap.size)
  generalize hAe : va_A (zl_W cq ci h0 a S) s.heap.size = A at hD ⊢
  have hA : ∀ q : Nat, s.heap.size ≤ q → A q := fun q h => by rw [← hAe]; exact Or.inr h
  have hS : va_S A s.heap s.heap [] := va_S.rf
  have hl := lv_entry ([.ref h0, .int p1, .long p2]) (n := 6) (Nat.le_of_ble_eq_true rfl)
  rw [lg_entry_eq]
  generalize (lg_sl ([.ref h0, .int p1, .long p2]) ++ List.replicate (6 - (lg_sl ([.ref h0, .int p1, .long p2])).length) Slot.unset).toArray = ls at hl ⊢
  have hl : lv_has ls 6 [(0, .ref h0), (1, .int p1), (2, .long p2)] := hl
  refine lv_iload_n hx hb dz_L_reserve_0 rfl (lv_at hl 1 rfl) ?_
  refine vp_callSi (va_Run.run (va_runS (As := [.int p1]) (rest := []) ⟨hx, hb, hml, hown, hz⟩ (ct_L_isSize l dC dI cq ci p1) (cwS 1 hz (zw_gS zi_79 zi_80 zi_33 zi_81) rfl rfl rfl (by decide +kernel) ⟨Nat.le_of_ble_eq_true rfl, Nat.le_of_ble_eq_true rfl⟩) (zw_preR zw_ns_ok (ws := []) (fun k q h => by simp at h) hK hN) rfl rfl hl.1 rfl (lv_room (Nat.le_of_ble_eq_true rfl)) dz_L_reserve_1 ⟨Nat.le_of_ble_eq_true rfl, Nat.le_of_ble_eq_true rfl⟩)) (fun r_1 hr_1 => ?_)
  have hr_1 : r_1 = zl_isSize p1 := hr_1
  subst hr_1
  refine lv_if_eq (tgt := 24) hx hb dz_L_reserve_4 (by decide) (fun c_2 => ?_) (fun c_2 => ?_)
  · refine lv_bipush (v := -12) hx hb dz_L_reserve_24 (by decide) ?_
    have hE_3 : zl_reserve S p1 p2 = ((-12), S) := by simp only [zl_reserve, if_pos c_2]
    exact W.iret (v := (-12)) hx hb hr (fun t ht hW => ⟨⟨_, (), rfl, by show (-12) = (zl_reserve S p1 p2).1; rw [hE_3], by show va_P (dC, dI) vwCl (zl_W cq ci h0 a ((zl_reserve S p1 p2).2)) t.heap; rw [ht, hE_3]; exact hP, by show va_D A (zl_W cq ci h0 a ((zl_reserve S p1 p2).2)); rw [hE_3]; exact hD⟩, hS.F ht⟩) hS.2.2 dz_L_reserve_26
  · refine lv_lload_n hx hb dz_L_reserve_7 rfl (lv_at hl 2 rfl) ?_
    refine lv_aload_n hx hb dz_L_reserve_8 rfl (lv_at hl 0 rfl) ?_
    refine va_get (D := (dC, dI)) (ci := 2) (v := .long (zl_T S)) (C := RzL) (T := TzL) (N := 9) hx hb hz inzL hown hK hP 0 rfl rfl 5 (by decide) (hz _ zi_62) (fun _ h9 => h9) rfl dz_L_reserve_9 ?_
    refine W.lcmp hx hb dz_L_reserve_12 ?_
    refine lv_if_le (tgt := 24) hx hb dz_L_reserve_13 (by decide) (fun c_4 => ?_) (fun c_4 => ?_)
    · refine lv_bipush (v := -12) hx hb dz_L_reserve_24 (by decide) ?_
      have hE_5 : zl_reserve S p1 p2 = ((-12), S) := by simp only [zl_reserve, if_neg c_2, if_pos c_4]
      exact W.iret (v := (-12)) hx hb hr (fun t ht hW => ⟨⟨_, (), rfl, by show (-12) = (zl_reserve S p1 p2).1; rw [hE_5], by show va_P (dC, dI) vwCl (zl_W cq ci h0 a ((zl_reserve S p1 p2).2)) t.heap; rw [ht, hE_5]; exact hP, by show va_D A (zl_W cq ci h0 a ((zl_reserve S p1 p2).2)); rw [hE_5]; exact hD⟩, hS.F ht⟩) hS.2.2 dz_L_reserve_26
    · refine lv_lload_n hx hb dz_L_reserve_16 rfl (lv_at hl 2 rfl) ?_
      refine lv_ldc2 (v := 2000000000) hx hb hown (hz _ zi_120) dz_L_reserve_17 ?_
      refine W.lcmp hx hb dz_L_reserve_20 ?_
      refine lv_if_le (tgt := 27) hx hb dz_L_reserve_21 (by decide) (fun c_6 => ?_) (fun c_6 => ?_)
      · refine lv_aload_n hx hb dz_L_reserve_27 rfl (lv_at hl 0 rfl) ?_
        refine lv_iload_n hx hb dz_L_reserve_28 rfl (lv_at hl 1 rfl) ?_
        refine vp_callSi (va_Run.run (va_runV (As := [.int p1]) (rest := []) ⟨hx, hb, hml, hown, hz⟩ (ct_L_smallestUnused l dC dI cq ci h0 a S hok p1) (cwV 1 hz (zw_gV zi_121 zi_122 zi_2 zi_33 zi_123) rfl rfl rfl (by decide +kernel) ⟨Nat.le_of_ble_eq_true rfl, Nat.le_of_ble_eq_true rfl⟩) (zw_preRV zw_ns_ok hP hK hN (ci := 2) rfl (k := 0) rfl) rfl rfl hl.1 rfl (lv_room (Nat.le_of_ble_eq_true rfl)) dz_L_reserve_29 ⟨Nat.le_of_ble_eq_true rfl, Nat.le_of_ble_eq_true rfl⟩)) (fun r_7 hr_7 => ?_)
        have hr_7 : r_7 = zl_smallest S p1 := hr_7
        subst hr_7
        refine lv_istore (lv' := [(4, .int (zl_smallest S p1)), (0, .ref h0), (1, .int p1), (2, .long p2)]) hx hb dz_L_reserve_32 hl (by decide) rfl (fun ls hl => ?_)
        refine lv_aload_n hx hb dz_L_reserve_34 rfl (lv_at hl 1 rfl) ?_
        refine lv_iload hx hb dz_L_reserve_35 (lv_at hl 0 rfl) ?_
        refine va_csq (va_Run.run (va_runV (As := [.int (zl_smallest S p1)]) (rest := []) ⟨hx, hb, hml, hown, hz⟩ (ct_L_boxAt l dC dI cq ci h0 a S hok (zl_smallest S p1)) (cwV 1 hz (zw_gV zi_124 zi_125 zi_3 zi_33 zi_126) rfl rfl rfl (by decide +kernel) ⟨Nat.le_of_ble_eq_true rfl, Nat.le_of_ble_eq_true rfl⟩) (zw_preRV zw_ns_ok hP hK hN (ci := 2) rfl (k := 0) rfl) rfl rfl hl.1 rfl (lv_room (Nat.le_of_ble_eq_true rfl)) dz_L_reserve_37 ⟨Nat.le_of_ble_eq_true rfl, Nat.le_of_ble_eq_true rfl⟩)) (fun r_8 hr_8 => ?_)
        have hr_8 : r_8 = Option.map (zl_ab a) (zl_boxAt S (zl_smallest S p1)) := hr_8
        obtain ⟨o_8, ho_8⟩ : ∃ o, o = zl_boxAt S (zl_smallest S p1) := ⟨_, rfl⟩
        rw [← ho_8] at hr_8
        rcases o_8 with _ | i8
        · have hi_8 : zl_boxAt S (zl_smallest S p1) = none := ho_8.symm
          subst hr_8
          refine W.eq (g2 := F0 m 40 ls [.null]) rfl ?_
          refine lv_astoreN (lv' := [(5, .null), (4, .int (zl_smallest S p1)), (0, .ref h0), (1, .int p1), (2, .long p2)]) hx hb dz_L_reserve_40 hl (by decide) rfl (fun ls hl => ?_)
          refine lv_aloadN hx hb dz_L_reserve_42 (lv_at hl 0 rfl) ?_
          refine lv_ifnonnullN hx hb dz_L_reserve_44 ?_
          refine lv_iconst (v := 0) hx hb dz_L_reserve_47 (by decide) ?_
          have hE_9 : zl_reserve S p1 p2 = (0, S) := by simp only [zl_reserve, if_neg c_2, if_neg c_4, if_pos c_6, hi_8]
          exact W.iret (v := 0) hx hb hr (fun t ht hW => ⟨⟨_, (), rfl, by show 0 = (zl_reserve S p1 p2).1; rw [hE_9], by show va_P (dC, dI) vwCl (zl_W cq ci h0 a ((zl_reserve S p1 p2).2)) t.heap; rw [ht, hE_9]; exact hP, by show va_D A (zl_W cq ci h0 a ((zl_reserve S p1 p2).2)); rw [hE_9]; exact hD⟩, hS.F ht⟩) hS.2.2 dz_L_reserve_48
        · have hi_8 : zl_boxAt S (zl_smallest S p1) = some i8 := ho_8.symm
          have hlt_8 := zl_boxAt_lt hok hi_8
          subst hr_8
          refine W.eq (g2 := F0 m 40 ls [.ref (zl_ab a i8)]) rfl ?_
          refine lv_astore (lv' := [(5, .ref (zl_ab a i8)), (4, .int (zl_smallest S p1)), (0, .ref h0), (1, .int p1), (2, .long p2)]) hx hb dz_L_reserve_40 hl (by decide) rfl (fun ls hl => ?_)
          refine lv_aload hx hb dz_L_reserve_42 (lv_at hl 0 rfl) ?_
          refine lv_ifnonnull (tgt := 49) hx hb dz_L_reserve_44 (by decide) ?_
          refine lv_aload hx hb dz_L_reserve_49 (lv_at hl 0 rfl) ?_
          refine lv_lload_n hx hb dz_L_reserve_51 rfl (lv_at hl 4 rfl) ?_
          refine va_putN (D := (dC, dI)) (ci := 0) (v := .long p2) (ty := .long) (C := RzB) (T := TzB) (N := 9) hx hb hz inzB tyzB tyzB_ok nmzB hown hK hP hD hS (i8 + 5) (zl_box hlt_8) rfl 8 (by decide) (va_Nw.use rfl (hN _ zn_8)) (fun _ h9 => h9) rfl (by decide +kernel) rfl rfl (Nat.le_of_ble_eq_true rfl) dz_L_reserve_52 (fun H locs hP hD hS => ?_)
          obtain ⟨S_10, eS_10⟩ : ∃ z, z = zl_sB S i8 (zb_sKe (zl_B S i8) p2) := ⟨_, rfl⟩
          have hP : va_P (dC, dI) vwCl (zl_W cq ci h0 a S_10) H := by rw [eS_10, ← zl_box_set (zb_sKe (zl_B S i8) p2) hlt_8]; exact hP
          have hD : va_D A (zl_W cq ci h0 a S_10) := by rw [eS_10, ← zl_box_set (zb_sKe (zl_B S i8) p2) hlt_8]; exact hD
          have hok : zl_ok S_10 := by rw [eS_10]; exact hok
          have hlt_8 : i8 < zl_n S_10 := by rw [eS_10]; exact hlt_8
          refine lv_iload hx hb dz_L_reserve_55 (lv_at hl 1 rfl) ?_
          subst eS_10
          have hE_11 : zl_reserve S p1 p2 = (zl_smallest S p1, zl_sB S i8 (zb_sKe (zl_B S i8) p2)) := by simp only [zl_reserve, if_neg c_2, if_neg c_4, if_pos c_6, hi_8]
          exact W.iret (v := zl_smallest S p1) hx hb hr (fun t ht hW => ⟨⟨_, (), rfl, by show zl_smallest S p1 = (zl_reserve S p1 p2).1; rw [hE_11], by show va_P (dC, dI) vwCl (zl_W cq ci h0 a ((zl_reserve S p1 p2).2)) t.heap; rw [ht, hE_11]; exact hP, by show va_D A (zl_W cq ci h0 a ((zl_reserve S p1 p2).2)); rw [hE_11]; exact hD⟩, hS.F ht⟩) hS.2.2 dz_L_reserve_57
      · refine lv_bipush (v := -12) hx hb dz_L_reserve_24 (by decide) ?_
        have hE_12 : zl_reserve S p1 p2 = ((-12), S) := by simp only [zl_reserve, if_neg c_2, if_neg c_4, if_neg c_6]
        exact W.iret (v := (-12)) hx hb hr (fun t ht hW => ⟨⟨_, (), rfl, by show (-12) = (zl_reserve S p1 p2).1; rw [hE_12], by show va_P (dC, dI) vwCl (zl_W cq ci h0 a ((zl_reserve S p1 p2).2)) t.heap; rw [ht, hE_12]; exact hP, by show va_D A (zl_W cq ci h0 a ((zl_reserve S p1 p2).2)); rw [hE_12]; exact hD⟩, hS.F ht⟩) hS.2.2 dz_L_reserve_26
set_option maxHeartbeats 4000000 in
set_option maxRecDepth 100000 in
theorem ct_L_put (l : Launch) (dC : Nat → ClassId) (dI : Nat → Nat → Nat) (cq ci : ClassId) (h0 : Nat) (a : zl_Ad) (S : zl_S) (hok : zl_ok S) (sz : Nat) (p1 : Int32) (p2 : Int32) (p3 : Int64) : Met l yz_L_put wz_L_put (zw_room 3 0 0) (zw_U zw_ns (dC, dI) vwCl (zl_tys cq ci) [.ref h0, .int p1, .int p2, .long p3] (zl_W cq ci h0 a S) sz) (va_Qi (fun (r : Int32) (_ : Unit) => r = (zl_put S p1 p2 p3).1) (fun (_ : Unit) (t : State) => va_P (dC, dI) vwCl (zl_W cq ci h0 a ((zl_put S p1 p2 p3).2)) t.heap ∧ va_D (va_A (zl_W cq ci h0 a S) sz) (zl_W cq ci h0 a ((zl_put S p1 p2 p3).2))) (va_A (zl_W cq ci h0 a S) sz)) 0 0 (va_A (zl_W cq ci h0 a S) sz) := by
  refine Met.ofW (cc := cz_L_put) (maxL := 6) (ret := (some .int)) (by decide) rfl ?_
  intro p e s m args below meth c s₁ B hml hv
  obtain ⟨rfl, hsz, hP, hK, hD0, hN⟩ := hv
  have hx := B.exec
  have hb := B.bytes
  have hr := B.returns
  have hts := atoms_spec (ws := wz_L_put) B.pre
  have hz : ∀ w ∈ zw_T, w.before ([.ref h0, .int p1, .int p2, .long p3] : List Value).toArray s = true := fun w h => hts w (List.mem_cons_of_mem _ h)
  have hown : s.vm.findClass RzL = some m.cls := findClass_of_methodNamed B.named
  have hlocks := B.notSynchronized
  subst hsz
  have hD := hD0.self (sz := s.heap.size)
  generalize hAe : va_A (zl_W cq ci h0 a S) s.heap.size = A at hD ⊢
  have hA : ∀ q : Nat, s.heap.size ≤ q → A q := fun q h => by rw [← hAe]; exact Or.inr h
  have hS : va_S A s.heap s.heap [] := va_S.rf
  have hl := lv_entry ([.ref h0, .int p1, .int p2, .long p3]) (n := 6) (Nat.le_of_ble_eq_true rfl)
  rw [lg_entry_eq]
  generalize (lg_sl ([.ref h0, .int p1, .int p2, .long p3]) ++ List.replicate (6 - (lg_sl ([.ref h0, .int p1, .int p2, .long p3])).length) Slot.unset).toArray = ls at hl ⊢
  have hl : lv_has ls 6 [(0, .ref h0), (1, .int p1), (2, .int p2), (3, .long p3)] := hl
  refine lv_aload_n hx hb dz_L_put_0 rfl (lv_at hl 0 rfl) ?_
  refine lv_iload_n hx hb dz_L_put_1 rfl (lv_at hl 1 rfl) ?_
  refine va_csq (va_Run.run (va_runV (As := [.int p1]) (rest := []) ⟨hx, hb, hml, hown, hz⟩ (ct_L_boxAt l dC dI cq ci h0 a S hok p1) (cwV 1 hz (zw_gV zi_124 zi_125 zi_3 zi_33 zi_126) rfl rfl rfl (by decide +kernel) ⟨Nat.le_of_ble_eq_true rfl, Nat.le_of_ble_eq_true rfl⟩) (zw_preRV zw_ns_ok hP hK hN (ci := 2) rfl (k := 0) rfl) rfl rfl hl.1 rfl (lv_room (Nat.le_of_ble_eq_true rfl)) dz_L_put_2 ⟨Nat.le_of_ble_eq_true rfl, Nat.le_of_ble_eq_true rfl⟩)) (fun r_1 hr_1 => ?_)
  have hr_1 : r_1 = Option.map (zl_ab a) (zl_boxAt S p1) := hr_1
  obtain ⟨o_1, ho_1⟩ : ∃ o, o = zl_boxAt S p1 := ⟨_, rfl⟩
  rw [← ho_1] at hr_1
  rcases o_1 with _ | i1
  · have hi_1 : zl_boxAt S p1 = none := ho_1.symm
    subst hr_1
    refine W.eq (g2 := F0 m 5 ls [.null]) rfl ?_
    refine lv_astoreN (lv' := [(5, .null), (0, .ref h0), (1, .int p1), (2, .int p2), (3, .long p3)]) hx hb dz_L_put_5 hl (by decide) rfl (fun ls hl => ?_)
    refine lv_aloadN hx hb dz_L_put_7 (lv_at hl 0 rfl) ?_
    refine lv_ifnonnullN hx hb dz_L_put_9 ?_
    refine lv_bipush (v := -11) hx hb dz_L_put_12 (by decide) ?_
    have hE_2 : zl_put S p1 p2 p3 = ((-11), S) := by simp only [zl_put, hi_1]
    exact W.iret (v := (-11)) hx hb hr (fun t ht hW => ⟨⟨_, (), rfl, by show (-11) = (zl_put S p1 p2 p3).1; rw [hE_2], by show va_P (dC, dI) vwCl (zl_W cq ci h0 a ((zl_put S p1 p2 p3).2)) t.heap; rw [ht, hE_2]; exact hP, by show va_D A (zl_W cq ci h0 a ((zl_put S p1 p2 p3).2)); rw [hE_2]; exact hD⟩, hS.F ht⟩) hS.2.2 dz_L_put_14
  · have hi_1 : zl_boxAt S p1 = some i1 := ho_1.symm
    have hlt_1 := zl_boxAt_lt hok hi_1
    subst hr_1
    refine W.eq (g2 := F0 m 5 ls [.ref (zl_ab a i1)]) rfl ?_
    refine lv_astore (lv' := [(5, .ref (zl_ab a i1)), (0, .ref h0), (1, .int p1), (2, .int p2), (3, .long p3)]) hx hb dz_L_put_5 hl (by decide) rfl (fun ls hl => ?_)
    refine lv_aload hx hb dz_L_put_7 (lv_at hl 0 rfl) ?_
    refine lv_ifnonnull (tgt := 15) hx hb dz_L_put_9 (by decide) ?_
    refine lv_iload_n hx hb dz_L_put_15 rfl (lv_at hl 3 rfl) ?_
    refine vp_callSi (va_Run.run (va_runS (As := [.int p2]) (rest := []) ⟨hx, hb, hml, hown, hz⟩ (ct_L_isItem l dC dI cq ci p2) (cwS 1 hz (zw_gS zi_136 zi_137 zi_33 zi_138) rfl rfl rfl (by decide +kernel) ⟨Nat.le_of_ble_eq_true rfl, Nat.le_of_ble_eq_true rfl⟩) (zw_preR zw_ns_ok (ws := []) (fun k q h => by simp at h) hK hN) rfl rfl hl.1 rfl (lv_room (Nat.le_of_ble_eq_true rfl)) dz_L_put_16 ⟨Nat.le_of_ble_eq_true rfl, Nat.le_of_ble_eq_true rfl⟩)) (fun r_3 hr_3 => ?_)
    have hr_3 : r_3 = zl_isItem p2 := hr_3
    subst hr_3
    refine lv_if_eq (tgt := 30) hx hb dz_L_put_19 (by decide) (fun c_4 => ?_) (fun c_4 => ?_)
    · refine lv_bipush (v := -12) hx hb dz_L_put_30 (by decide) ?_
      have hE_5 : zl_put S p1 p2 p3 = ((-12), S) := by simp only [zl_put, hi_1, if_pos c_4]
      exact W.iret (v := (-12)) hx hb hr (fun t ht hW => ⟨⟨_, (), rfl, by show (-12) = (zl_put S p1 p2 p3).1; rw [hE_5], by show va_P (dC, dI) vwCl (zl_W cq ci h0 a ((zl_put S p1 p2 p3).2)) t.heap; rw [ht, hE_5]; exact hP, by show va_D A (zl_W cq ci h0 a ((zl_put S p1 p2 p3).2)); rw [hE_5]; exact hD⟩, hS.F ht⟩) hS.2.2 dz_L_put_32
    · refine lv_aload_n hx hb dz_L_put_22 rfl (lv_at hl 1 rfl) ?_
      refine lv_lload_n hx hb dz_L_put_23 rfl (lv_at hl 4 rfl) ?_
      refine vp_callSi (va_Run.run (va_runV (As := [.long p3]) (rest := []) ⟨hx, hb, hml, hown, hz⟩ (ct_L_isTime l dC dI cq ci h0 a S hok p3) (cwV 1 hz (zw_gV zi_139 zi_140 zi_6 zi_33 zi_141) rfl rfl rfl (by decide +kernel) ⟨Nat.le_of_ble_eq_true rfl, Nat.le_of_ble_eq_true rfl⟩) (zw_preRV zw_ns_ok hP hK hN (ci := 2) rfl (k := 0) rfl) rfl rfl hl.1 rfl (lv_room (Nat.le_of_ble_eq_true rfl)) dz_L_put_24 ⟨Nat.le_of_ble_eq_true rfl, Nat.le_of_ble_eq_true rfl⟩)) (fun r_6 hr_6 => ?_)
      have hr_6 : r_6 = zl_isTime S p3 := hr_6
      subst hr_6
      refine lv_if_ne (tgt := 33) hx hb dz_L_put_27 (by decide) (fun c_7 => ?_) (fun c_7 => ?_)
      · refine lv_aload_n hx hb dz_L_put_33 rfl (lv_at hl 1 rfl) ?_
        refine lv_lload_n hx hb dz_L_put_34 rfl (lv_at hl 4 rfl) ?_
        have hFc := zw_free hS hA hD
        refine va_callv (va_runV (As := [.long p3]) (rest := []) ⟨hx, hb, hml, hown, hz⟩ (ct_L_passTo l dC dI cq ci h0 a S hok s.heap.size p3) (cwV 1 hz (zw_gV zi_142 zi_143 zi_7 zi_33 zi_144) rfl rfl rfl (by decide +kernel) ⟨Nat.le_of_ble_eq_true rfl, Nat.le_of_ble_eq_true rfl⟩) (zw_preUV zw_ns_ok hP hD hK hN (ci := 2) rfl (k := 0) rfl) rfl rfl hl.1 rfl (lv_room (Nat.le_of_ble_eq_true rfl)) dz_L_put_35 ⟨Nat.le_of_ble_eq_true rfl, Nat.le_of_ble_eq_true rfl⟩) hS (fun q _ h => hFc q h) hFc (fun u_8 t_8 H locs ht hvm hw hB hz1 hk1 hS => ?_)
        obtain ⟨hP, hD⟩ := hB
        rw [ht] at hP
        have hD := hD.weaken (fun _ q _ h => hFc q.1 h)
        obtain ⟨S_9, eS_9⟩ : ∃ z, z = (zl_passTo S p3) := ⟨_, rfl⟩
        rw [← eS_9] at hP hD
        have hok : zl_ok S_9 := by rw [eS_9]; exact zl_ok_pass hok
        have hlt_1 : i1 < zl_n S_9 := by rw [eS_9, zl_n_pass]; exact hlt_1
        refine lv_aload hx hb dz_L_put_38 (lv_at hl 0 rfl) ?_
        refine va_getN (D := (dC, dI)) (ci := 0) (v := .int (zb_Dr (zl_B S_9 i1))) (C := RzB) (T := TzB) (N := 9) hx hb hz inzB hown hK hP (i1 + 5) (zl_box hlt_1) rfl 1 (by decide) (va_Nw.use rfl (hN _ zn_4)) (fun _ h9 => h9) rfl dz_L_put_40 ?_
        refine lv_iconst (v := 1) hx hb dz_L_put_43 (by decide) ?_
        refine lv_icmp_ne (tgt := 63) hx hb dz_L_put_44 (by decide) (fun c_10 => ?_) (fun c_10 => ?_)
        · refine lv_iconst (v := 0) hx hb dz_L_put_63 (by decide) ?_
          subst eS_9
          have hE_11 : zl_put S p1 p2 p3 = (0, zl_passTo S p3) := by simp only [zl_put, hi_1, if_neg c_4, if_neg c_7, if_neg c_10]
          exact W.iret (v := 0) hx hb hr (fun t ht hW => ⟨⟨_, (), rfl, by show 0 = (zl_put S p1 p2 p3).1; rw [hE_11], by show va_P (dC, dI) vwCl (zl_W cq ci h0 a ((zl_put S p1 p2 p3).2)) t.heap; rw [ht, hE_11]; exact hP, by show va_D A (zl_W cq ci h0 a ((zl_put S p1 p2 p3).2)); rw [hE_11]; exact hD⟩, hS.F ht⟩) hS.2.2 dz_L_put_64
        · refine lv_aload hx hb dz_L_put_47 (lv_at hl 0 rfl) ?_
          refine vp_callSi (va_Run.run (va_runVN (As := []) (rest := []) ⟨hx, hb, hml, hown, hz⟩ (ct_B_isEmpty l dC dI cq ci (zl_ab a i1) (zl_B S_9 i1)) ⟨va_cnB 0 hz (zw_g1 zi_131) rfl rfl rfl (hN _ zn_14) (hz _ zi_36) (by decide +kernel) ⟨Nat.le_of_ble_eq_true rfl, Nat.le_of_ble_eq_true rfl⟩, hz _ zi_130, hz _ zi_5⟩ (zw_preRV zw_ns_ok (show va_P (dC, dI) vwCl (zb_W (zl_ab a i1) (zl_B S_9 i1)) H from zw_P1 hP (zl_box hlt_1)) hK hN (ci := 0) rfl (k := 0) rfl) rfl rfl hl.1 rfl (lv_room (Nat.le_of_ble_eq_true rfl)) dz_L_put_49 ⟨Nat.le_of_ble_eq_true rfl, Nat.le_of_ble_eq_true rfl⟩)) (fun r_12 hr_12 => ?_)
          have hr_12 : r_12 = zb_isEmpty (zl_B S_9 i1) := hr_12
          subst hr_12
          refine lv_if_eq (tgt := 63) hx hb dz_L_put_52 (by decide) (fun c_13 => ?_) (fun c_13 => ?_)
          · refine lv_iconst (v := 0) hx hb dz_L_put_63 (by decide) ?_
            subst eS_9
            have hE_14 : zl_put S p1 p2 p3 = (0, zl_passTo S p3) := by simp only [zl_put, hi_1, if_neg c_4, if_neg c_7, if_pos c_10, if_pos c_13]
            exact W.iret (v := 0) hx hb hr (fun t ht hW => ⟨⟨_, (), rfl, by show 0 = (zl_put S p1 p2 p3).1; rw [hE_14], by show va_P (dC, dI) vwCl (zl_W cq ci h0 a ((zl_put S p1 p2 p3).2)) t.heap; rw [ht, hE_14]; exact hP, by show va_D A (zl_W cq ci h0 a ((zl_put S p1 p2 p3).2)); rw [hE_14]; exact hD⟩, hS.F ht⟩) hS.2.2 dz_L_put_64
          · refine lv_aload_n hx hb dz_L_put_55 rfl (lv_at hl 1 rfl) ?_
            refine lv_iload_n hx hb dz_L_put_56 rfl (lv_at hl 3 rfl) ?_
            refine va_csq (va_Run.run (va_runV (As := [.int p2]) (rest := []) ⟨hx, hb, hml, hown, hz⟩ (ct_L_boxOfItem l dC dI cq ci h0 a S_9 hok p2) (cwV 1 hz (zw_gV zi_160 zi_161 zi_13 zi_33 zi_162) rfl rfl rfl (by decide +kernel) ⟨Nat.le_of_ble_eq_true rfl, Nat.le_of_ble_eq_true rfl⟩) (zw_preRV zw_ns_ok hP hK hN (ci := 2) rfl (k := 0) rfl) rfl rfl hl.1 rfl (lv_room (Nat.le_of_ble_eq_true rfl)) dz_L_put_57 ⟨Nat.le_of_ble_eq_true rfl, Nat.le_of_ble_eq_true rfl⟩)) (fun r_15 hr_15 => ?_)
            have hr_15 : r_15 = Option.map (zl_ab a) (zl_boxOfItem S_9 p2) := hr_15
            obtain ⟨o_15, ho_15⟩ : ∃ o, o = zl_boxOfItem S_9 p2 := ⟨_, rfl⟩
            rw [← ho_15] at hr_15
            rcases o_15 with _ | i15
            · have hi_15 : zl_boxOfItem S_9 p2 = none := ho_15.symm
              subst hr_15
              refine W.eq (g2 := F0 m 60 ls [.null]) rfl ?_
              refine lv_ifnullN (tgt := 65) hx hb dz_L_put_60 (by decide) ?_
              refine lv_aload hx hb dz_L_put_65 (lv_at hl 0 rfl) ?_
              refine lv_iload_n hx hb dz_L_put_67 rfl (lv_at hl 3 rfl) ?_
              have hFc := zw_free hS hA (show va_D A (zb_W (zl_ab a i1) (zl_B S_9 i1)) from zw_D1 hD (zl_box hlt_1))
              refine va_callv (va_runVN (As := [.int p2]) (rest := []) ⟨hx, hb, hml, hown, hz⟩ (ct_B_receive l dC dI cq ci (zl_ab a i1) (zl_B S_9 i1) H.size p2) ⟨va_cnB 1 hz (zw_g1 zi_164) rfl rfl rfl (hN _ zn_15) (hz _ zi_36) (by decide +kernel) ⟨Nat.le_of_ble_eq_true rfl, Nat.le_of_ble_eq_true rfl⟩, hz _ zi_163, hz _ zi_14⟩ (zw_preUV zw_ns_ok (show va_P (dC, dI) vwCl (zb_W (zl_ab a i1) (zl_B S_9 i1)) H from zw_P1 hP (zl_box hlt_1)) (show va_D A (zb_W (zl_ab a i1) (zl_B S_9 i1)) from zw_D1 hD (zl_box hlt_1)) hK hN (ci := 0) rfl (k := 0) rfl) rfl rfl hl.1 rfl (lv_room (Nat.le_of_ble_eq_true rfl)) dz_L_put_68 ⟨Nat.le_of_ble_eq_true rfl, Nat.le_of_ble_eq_true rfl⟩) hS (fun q _ h => hFc q h) hFc (fun u_16 t_16 H locs ht hvm hw hB hz1 hk1 hS => ?_)
              have hB : va_P (dC, dI) vwCl (zb_W (zl_ab a i1) (zb_receive (zl_B S_9 i1) p2)) t_16.heap := hB
              rw [ht] at hB
              obtain ⟨hP, hD⟩ := zl_joinB hlt_1 hP hD hk1 hB
              obtain ⟨S_17, eS_17⟩ : ∃ z, z = zl_sB S_9 i1 (zb_receive (zl_B S_9 i1) p2) := ⟨_, rfl⟩
              rw [← eS_17] at hP hD
              have hok : zl_ok S_17 := by rw [eS_17]; exact hok
              have hlt_1 : i1 < zl_n S_17 := by rw [eS_17]; exact hlt_1
              refine lv_iconst (v := 1) hx hb dz_L_put_71 (by decide) ?_
              subst eS_9 eS_17
              have hE_18 : zl_put S p1 p2 p3 = (1, zl_sB (zl_passTo S p3) i1 (zb_receive (zl_B (zl_passTo S p3) i1) p2)) := by simp only [zl_put, hi_1, if_neg c_4, if_neg c_7, if_pos c_10, if_neg c_13, hi_15]
              exact W.iret (v := 1) hx hb hr (fun t ht hW => ⟨⟨_, (), rfl, by show 1 = (zl_put S p1 p2 p3).1; rw [hE_18], by show va_P (dC, dI) vwCl (zl_W cq ci h0 a ((zl_put S p1 p2 p3).2)) t.heap; rw [ht, hE_18]; exact hP, by show va_D A (zl_W cq ci h0 a ((zl_put S p1 p2 p3).2)); rw [hE_18]; exact hD⟩, hS.F ht⟩) hS.2.2 dz_L_put_72
            · have hi_15 : zl_boxOfItem S_9 p2 = some i15 := ho_15.symm
              have hlt_15 := zl_boxOfItem_lt hok hi_15
              subst hr_15
              refine W.eq (g2 := F0 m 60 ls [.ref (zl_ab a i15)]) rfl ?_
              refine lv_ifnull hx hb dz_L_put_60 ?_
              refine lv_iconst (v := 0) hx hb dz_L_put_63 (by decide) ?_
              subst eS_9
              have hE_19 : zl_put S p1 p2 p3 = (0, zl_passTo S p3) := by simp only [zl_put, hi_1, if_neg c_4, if_neg c_7, if_pos c_10, if_neg c_13, hi_15]
              exact W.iret (v := 0) hx hb hr (fun t ht hW => ⟨⟨_, (), rfl, by show 0 = (zl_put S p1 p2 p3).1; rw [hE_19], by show va_P (dC, dI) vwCl (zl_W cq ci h0 a ((zl_put S p1 p2 p3).2)) t.heap; rw [ht, hE_19]; exact hP, by show va_D A (zl_W cq ci h0 a ((zl_put S p1 p2 p3).2)); rw [hE_19]; exact hD⟩, hS.F ht⟩) hS.2.2 dz_L_put_64
      · refine lv_bipush (v := -12) hx hb dz_L_put_30 (by decide) ?_
        have hE_20 : zl_put S p1 p2 p3 = ((-12), S) := by simp only [zl_put, hi_1, if_neg c_4, if_pos c_7]
        exact W.iret (v := (-12)) hx hb hr (fun t ht hW => ⟨⟨_, (), rfl, by show (-12) = (zl_put S p1 p2 p3).1; rw [hE_20], by show va_P (dC, dI) vwCl (zl_W cq ci h0 a ((zl_put S p1 p2 p3).2)) t.heap; rw [ht, hE_20]; exact hP, by show va_D A (zl_W cq ci h0 a ((zl_put S p1 p2 p3).2)); rw [hE_20]; exact hD⟩, hS.F ht⟩) hS.2.2 dz_L_put_32
set_option maxHeartbeats 4000000 in
set_option maxRecDepth 100000 in
theorem ct_L_close (l : Launch) (dC : Nat → ClassId) (dI : Nat → Nat → Nat) (cq ci : ClassId) (h0 : Nat) (a : zl_Ad) (S : zl_S) (hok : zl_ok S) (sz : Nat) (p1 : Int32) (p2 : Int64) : Met l yz_L_close wz_L_close (zw_room 3 0 0) (zw_U zw_ns (dC, dI) vwCl (zl_tys cq ci) [.ref h0, .int p1, .long p2] (zl_W cq ci h0 a S) sz) (va_Qi (fun (r : Int32) (_ : Unit) => r = (zl_close S p1 p2).1) (fun (_ : Unit) (t : State) => va_P (dC, dI) vwCl (zl_W cq ci h0 a ((zl_close S p1 p2).2)) t.heap ∧ va_D (va_A (zl_W cq ci h0 a S) sz) (zl_W cq ci h0 a ((zl_close S p1 p2).2))) (va_A (zl_W cq ci h0 a S) sz)) 0 0 (va_A (zl_W cq ci h0 a S) sz) := by
  refine Met.ofW (cc := cz_L_close) (maxL := 6) (ret := (some .int)) (by decide) rfl ?_
  intro p e s m args below meth c s₁ B hml hv
  obtain ⟨rfl, hsz, hP, hK, hD0, hN⟩ := hv
  have hx := B.exec
  have hb := B.bytes
  have hr := B.returns
  have hts := atoms_spec (ws := wz_L_close) B.pre
  have hz : ∀ w ∈ zw_T, w.before ([.ref h0, .int p1, .long p2] : List Value).toArray s = true := fun w h => hts w (List.mem_cons_of_mem _ h)
  have hown : s.vm.findClass RzL = some m.cls := findClass_of_methodNamed B.named
  have hlocks := B.notSynchronized
  subst hsz
  have hD := hD0.self (sz := s.heap.size)
  generalize hAe : va_A (zl_W cq ci h0 a S) s.heap.size = A at hD ⊢
  have hA : ∀ q : Nat, s.heap.size ≤ q → A q := fun q h => by rw [← hAe]; exact Or.inr h
  have hS : va_S A s.heap s.heap [] := va_S.rf
  have hl := lv_entry ([.ref h0, .int p1, .long p2]) (n := 6) (Nat.le_of_ble_eq_true rfl)
  rw [lg_entry_eq]
  generalize (lg_sl ([.ref h0, .int p1, .long p2]) ++ List.replicate (6 - (lg_sl ([.ref h0, .int p1, .long p2])).length) Slot.unset).toArray = ls at hl ⊢
  have hl : lv_has ls 6 [(0, .ref h0), (1, .int p1), (2, .long p2)] := hl
  refine lv_aload_n hx hb dz_L_close_0 rfl (lv_at hl 0 rfl) ?_
  refine lv_iload_n hx hb dz_L_close_1 rfl (lv_at hl 1 rfl) ?_
  refine va_csq (va_Run.run (va_runV (As := [.int p1]) (rest := []) ⟨hx, hb, hml, hown, hz⟩ (ct_L_boxAt l dC dI cq ci h0 a S hok p1) (cwV 1 hz (zw_gV zi_124 zi_125 zi_3 zi_33 zi_126) rfl rfl rfl (by decide +kernel) ⟨Nat.le_of_ble_eq_true rfl, Nat.le_of_ble_eq_true rfl⟩) (zw_preRV zw_ns_ok hP hK hN (ci := 2) rfl (k := 0) rfl) rfl rfl hl.1 rfl (lv_room (Nat.le_of_ble_eq_true rfl)) dz_L_close_2 ⟨Nat.le_of_ble_eq_true rfl, Nat.le_of_ble_eq_true rfl⟩)) (fun r_1 hr_1 => ?_)
  have hr_1 : r_1 = Option.map (zl_ab a) (zl_boxAt S p1) := hr_1
  obtain ⟨o_1, ho_1⟩ : ∃ o, o = zl_boxAt S p1 := ⟨_, rfl⟩
  rw [← ho_1] at hr_1
  rcases o_1 with _ | i1
  · have hi_1 : zl_boxAt S p1 = none := ho_1.symm
    subst hr_1
    refine W.eq (g2 := F0 m 5 ls [.null]) rfl ?_
    refine lv_astoreN (lv' := [(4, .null), (0, .ref h0), (1, .int p1), (2, .long p2)]) hx hb dz_L_close_5 hl (by decide) rfl (fun ls hl => ?_)
    refine lv_aloadN hx hb dz_L_close_7 (lv_at hl 0 rfl) ?_
    refine lv_ifnonnullN hx hb dz_L_close_9 ?_
    refine lv_bipush (v := -11) hx hb dz_L_close_12 (by decide) ?_
    have hE_2 : zl_close S p1 p2 = ((-11), S) := by simp only [zl_close, hi_1]
    exact W.iret (v := (-11)) hx hb hr (fun t ht hW => ⟨⟨_, (), rfl, by show (-11) = (zl_close S p1 p2).1; rw [hE_2], by show va_P (dC, dI) vwCl (zl_W cq ci h0 a ((zl_close S p1 p2).2)) t.heap; rw [ht, hE_2]; exact hP, by show va_D A (zl_W cq ci h0 a ((zl_close S p1 p2).2)); rw [hE_2]; exact hD⟩, hS.F ht⟩) hS.2.2 dz_L_close_14
  · have hi_1 : zl_boxAt S p1 = some i1 := ho_1.symm
    have hlt_1 := zl_boxAt_lt hok hi_1
    subst hr_1
    refine W.eq (g2 := F0 m 5 ls [.ref (zl_ab a i1)]) rfl ?_
    refine lv_astore (lv' := [(4, .ref (zl_ab a i1)), (0, .ref h0), (1, .int p1), (2, .long p2)]) hx hb dz_L_close_5 hl (by decide) rfl (fun ls hl => ?_)
    refine lv_aload hx hb dz_L_close_7 (lv_at hl 0 rfl) ?_
    refine lv_ifnonnull (tgt := 15) hx hb dz_L_close_9 (by decide) ?_
    refine lv_aload_n hx hb dz_L_close_15 rfl (lv_at hl 1 rfl) ?_
    refine lv_lload_n hx hb dz_L_close_16 rfl (lv_at hl 3 rfl) ?_
    refine vp_callSi (va_Run.run (va_runV (As := [.long p2]) (rest := []) ⟨hx, hb, hml, hown, hz⟩ (ct_L_isTime l dC dI cq ci h0 a S hok p2) (cwV 1 hz (zw_gV zi_139 zi_140 zi_6 zi_33 zi_141) rfl rfl rfl (by decide +kernel) ⟨Nat.le_of_ble_eq_true rfl, Nat.le_of_ble_eq_true rfl⟩) (zw_preRV zw_ns_ok hP hK hN (ci := 2) rfl (k := 0) rfl) rfl rfl hl.1 rfl (lv_room (Nat.le_of_ble_eq_true rfl)) dz_L_close_17 ⟨Nat.le_of_ble_eq_true rfl, Nat.le_of_ble_eq_true rfl⟩)) (fun r_3 hr_3 => ?_)
    have hr_3 : r_3 = zl_isTime S p2 := hr_3
    subst hr_3
    refine lv_if_ne (tgt := 26) hx hb dz_L_close_20 (by decide) (fun c_4 => ?_) (fun c_4 => ?_)
    · refine lv_aload_n hx hb dz_L_close_26 rfl (lv_at hl 1 rfl) ?_
      refine lv_lload_n hx hb dz_L_close_27 rfl (lv_at hl 3 rfl) ?_
      have hFc := zw_free hS hA hD
      refine va_callv (va_runV (As := [.long p2]) (rest := []) ⟨hx, hb, hml, hown, hz⟩ (ct_L_passTo l dC dI cq ci h0 a S hok s.heap.size p2) (cwV 1 hz (zw_gV zi_142 zi_143 zi_7 zi_33 zi_144) rfl rfl rfl (by decide +kernel) ⟨Nat.le_of_ble_eq_true rfl, Nat.le_of_ble_eq_true rfl⟩) (zw_preUV zw_ns_ok hP hD hK hN (ci := 2) rfl (k := 0) rfl) rfl rfl hl.1 rfl (lv_room (Nat.le_of_ble_eq_true rfl)) dz_L_close_28 ⟨Nat.le_of_ble_eq_true rfl, Nat.le_of_ble_eq_true rfl⟩) hS (fun q _ h => hFc q h) hFc (fun u_5 t_5 H locs ht hvm hw hB hz1 hk1 hS => ?_)
      obtain ⟨hP, hD⟩ := hB
      rw [ht] at hP
      have hD := hD.weaken (fun _ q _ h => hFc q.1 h)
      obtain ⟨S_6, eS_6⟩ : ∃ z, z = (zl_passTo S p2) := ⟨_, rfl⟩
      rw [← eS_6] at hP hD
      have hok : zl_ok S_6 := by rw [eS_6]; exact zl_ok_pass hok
      have hlt_1 : i1 < zl_n S_6 := by rw [eS_6, zl_n_pass]; exact hlt_1
      refine lv_aload hx hb dz_L_close_31 (lv_at hl 0 rfl) ?_
      refine va_getN (D := (dC, dI)) (ci := 0) (v := .int (zb_Dr (zl_B S_6 i1))) (C := RzB) (T := TzB) (N := 9) hx hb hz inzB hown hK hP (i1 + 5) (zl_box hlt_1) rfl 1 (by decide) (va_Nw.use rfl (hN _ zn_4)) (fun _ h9 => h9) rfl dz_L_close_33 ?_
      refine lv_iconst (v := 1) hx hb dz_L_close_36 (by decide) ?_
      refine lv_icmp_eq (tgt := 43) hx hb dz_L_close_37 (by decide) (fun c_7 => ?_) (fun c_7 => ?_)
      · refine lv_aload hx hb dz_L_close_43 (lv_at hl 0 rfl) ?_
        refine vp_callSi (va_Run.run (va_runVN (As := []) (rest := []) ⟨hx, hb, hml, hown, hz⟩ (ct_B_wantsCode l dC dI cq ci (zl_ab a i1) (zl_B S_6 i1)) ⟨va_cnB 0 hz (zw_g1 zi_170) rfl rfl rfl (hN _ zn_16) (hz _ zi_36) (by decide +kernel) ⟨Nat.le_of_ble_eq_true rfl, Nat.le_of_ble_eq_true rfl⟩, hz _ zi_169, hz _ zi_15⟩ (zw_preRV zw_ns_ok (show va_P (dC, dI) vwCl (zb_W (zl_ab a i1) (zl_B S_6 i1)) H from zw_P1 hP (zl_box hlt_1)) hK hN (ci := 0) rfl (k := 0) rfl) rfl rfl hl.1 rfl (lv_room (Nat.le_of_ble_eq_true rfl)) dz_L_close_45 ⟨Nat.le_of_ble_eq_true rfl, Nat.le_of_ble_eq_true rfl⟩)) (fun r_8 hr_8 => ?_)
        have hr_8 : r_8 = zb_wantsCode (zl_B S_6 i1) := hr_8
        subst hr_8
        refine lv_if_ne (tgt := 59) hx hb dz_L_close_48 (by decide) (fun c_9 => ?_) (fun c_9 => ?_)
        · refine lv_aload_n hx hb dz_L_close_59 rfl (lv_at hl 1 rfl) ?_
          have hFc := zw_free hS hA hD
          refine va_calli (va_runV (As := []) (rest := []) ⟨hx, hb, hml, hown, hz⟩ (ct_L_wantedCode l dC dI cq ci h0 a S_6 hok H.size) (cwV 0 hz (zw_gV zi_171 zi_172 zi_16 zi_33 zi_173) rfl rfl rfl (by decide +kernel) ⟨Nat.le_of_ble_eq_true rfl, Nat.le_of_ble_eq_true rfl⟩) (zw_preUV zw_ns_ok hP hD hK hN (ci := 2) rfl (k := 0) rfl) rfl rfl hl.1 rfl (lv_room (Nat.le_of_ble_eq_true rfl)) dz_L_close_60 ⟨Nat.le_of_ble_eq_true rfl, Nat.le_of_ble_eq_true rfl⟩) hS (fun q _ h => hFc q h) hFc (fun r_10 u_10 t_10 H locs ht hvm hw hB hz1 hk1 hS => ?_)
          have hw : r_10 = (zl_wanted S_6).1 := hw
          subst hw
          obtain ⟨hP, hD⟩ := hB
          rw [ht] at hP
          have hD := hD.weaken (fun _ q _ h => hFc q.1 h)
          obtain ⟨S_11, eS_11⟩ : ∃ z, z = (zl_wanted S_6).2 := ⟨_, rfl⟩
          rw [← eS_11] at hP hD
          have hok : zl_ok S_11 := by rw [eS_11]; exact zl_ok_wanted hok
          have hlt_1 : i1 < zl_n S_11 := by rw [eS_11, zl_n_wanted]; exact hlt_1
          refine lv_istore (lv' := [(5, .int ((zl_wanted S_6).1)), (4, .ref (zl_ab a i1)), (0, .ref h0), (1, .int p1), (2, .long p2)]) hx hb dz_L_close_63 hl (by decide) rfl (fun ls hl => ?_)
          refine lv_iload hx hb dz_L_close_65 (lv_at hl 0 rfl) ?_
          refine lv_iconst (v := -1) hx hb dz_L_close_67 (by decide) ?_
          refine lv_icmp_ne (tgt := 74) hx hb dz_L_close_68 (by decide) (fun c_12 => ?_) (fun c_12 => ?_)
          · refine lv_aload hx hb dz_L_close_74 (lv_at hl 1 rfl) ?_
            refine lv_iload hx hb dz_L_close_76 (lv_at hl 0 rfl) ?_
            refine lv_lload_n hx hb dz_L_close_78 rfl (lv_at hl 4 rfl) ?_
            have hFc := zw_free hS hA (show va_D A (zb_W (zl_ab a i1) (zl_B S_11 i1)) from zw_D1 hD (zl_box hlt_1))
            refine va_callv (va_runVN (As := [.int ((zl_wanted S_6).1), .long p2]) (rest := []) ⟨hx, hb, hml, hown, hz⟩ (ct_B_layDown l dC dI cq ci (zl_ab a i1) (zl_B S_11 i1) H.size ((zl_wanted S_6).1) p2) ⟨va_cnB 2 hz (zw_g1 zi_185) rfl rfl rfl (hN _ zn_20) (hz _ zi_36) (by decide +kernel) ⟨Nat.le_of_ble_eq_true rfl, Nat.le_of_ble_eq_true rfl⟩, hz _ zi_184, hz _ zi_20⟩ (zw_preUV zw_ns_ok (show va_P (dC, dI) vwCl (zb_W (zl_ab a i1) (zl_B S_11 i1)) H from zw_P1 hP (zl_box hlt_1)) (show va_D A (zb_W (zl_ab a i1) (zl_B S_11 i1)) from zw_D1 hD (zl_box hlt_1)) hK hN (ci := 0) rfl (k := 0) rfl) rfl rfl hl.1 rfl (lv_room (Nat.le_of_ble_eq_true rfl)) dz_L_close_79 ⟨Nat.le_of_ble_eq_true rfl, Nat.le_of_ble_eq_true rfl⟩) hS (fun q _ h => hFc q h) hFc (fun u_13 t_13 H locs ht hvm hw hB hz1 hk1 hS => ?_)
            have hB : va_P (dC, dI) vwCl (zb_W (zl_ab a i1) (zb_lay (zl_B S_11 i1) ((zl_wanted S_6).1) p2)) t_13.heap := hB
            rw [ht] at hB
            obtain ⟨hP, hD⟩ := zl_joinB hlt_1 hP hD hk1 hB
            obtain ⟨S_14, eS_14⟩ : ∃ z, z = zl_sB S_11 i1 (zb_lay (zl_B S_11 i1) ((zl_wanted S_6).1) p2) := ⟨_, rfl⟩
            rw [← eS_14] at hP hD
            have hok : zl_ok S_14 := by rw [eS_14]; exact hok
            have hlt_1 : i1 < zl_n S_14 := by rw [eS_14]; exact hlt_1
            refine lv_aload hx hb dz_L_close_82 (lv_at hl 1 rfl) ?_
            refine lv_iconst (v := 0) hx hb dz_L_close_84 (by decide) ?_
            refine va_putN (D := (dC, dI)) (ci := 0) (v := .int 0) (ty := .int) (C := RzB) (T := TzB) (N := 9) hx hb hz inzB tyzB tyzB_ok nmzB hown hK hP hD hS (i1 + 5) (zl_box hlt_1) rfl 1 (by decide) (va_Nw.use rfl (hN _ zn_4)) (fun _ h9 => h9) rfl (by decide +kernel) rfl rfl (Nat.le_of_ble_eq_true rfl) dz_L_close_85 (fun H locs hP hD hS => ?_)
            obtain ⟨S_15, eS_15⟩ : ∃ z, z = zl_sB S_14 i1 (zb_sDr (zl_B S_14 i1) 0) := ⟨_, rfl⟩
            have hP : va_P (dC, dI) vwCl (zl_W cq ci h0 a S_15) H := by rw [eS_15, ← zl_box_set (zb_sDr (zl_B S_14 i1) 0) hlt_1]; exact hP
            have hD : va_D A (zl_W cq ci h0 a S_15) := by rw [eS_15, ← zl_box_set (zb_sDr (zl_B S_14 i1) 0) hlt_1]; exact hD
            have hok : zl_ok S_15 := by rw [eS_15]; exact hok
            have hlt_1 : i1 < zl_n S_15 := by rw [eS_15]; exact hlt_1
            refine lv_iload hx hb dz_L_close_88 (lv_at hl 0 rfl) ?_
            subst eS_6 eS_11 eS_14 eS_15
            have hE_16 : zl_close S p1 p2 = ((zl_wanted (zl_passTo S p2)).1, zl_sB (zl_sB ((zl_wanted (zl_passTo S p2)).2) i1 (zb_lay (zl_B ((zl_wanted (zl_passTo S p2)).2) i1) ((zl_wanted (zl_passTo S p2)).1) p2)) i1 (zb_sDr (zl_B (zl_sB ((zl_wanted (zl_passTo S p2)).2) i1 (zb_lay (zl_B ((zl_wanted (zl_passTo S p2)).2) i1) ((zl_wanted (zl_passTo S p2)).1) p2)) i1) 0)) := by simp only [zl_close, hi_1, if_neg c_4, if_pos c_7, if_neg c_9, if_neg c_12]
            exact W.iret (v := (zl_wanted (zl_passTo S p2)).1) hx hb hr (fun t ht hW => ⟨⟨_, (), rfl, by show (zl_wanted (zl_passTo S p2)).1 = (zl_close S p1 p2).1; rw [hE_16], by show va_P (dC, dI) vwCl (zl_W cq ci h0 a ((zl_close S p1 p2).2)) t.heap; rw [ht, hE_16]; exact hP, by show va_D A (zl_W cq ci h0 a ((zl_close S p1 p2).2)); rw [hE_16]; exact hD⟩, hS.F ht⟩) hS.2.2 dz_L_close_90
          · refine lv_bipush (v := -14) hx hb dz_L_close_71 (by decide) ?_
            subst eS_6 eS_11
            have hE_17 : zl_close S p1 p2 = ((-14), ((zl_wanted (zl_passTo S p2)).2)) := by simp only [zl_close, hi_1, if_neg c_4, if_pos c_7, if_neg c_9, if_pos c_12]
            exact W.iret (v := (-14)) hx hb hr (fun t ht hW => ⟨⟨_, (), rfl, by show (-14) = (zl_close S p1 p2).1; rw [hE_17], by show va_P (dC, dI) vwCl (zl_W cq ci h0 a ((zl_close S p1 p2).2)) t.heap; rw [ht, hE_17]; exact hP, by show va_D A (zl_W cq ci h0 a ((zl_close S p1 p2).2)); rw [hE_17]; exact hD⟩, hS.F ht⟩) hS.2.2 dz_L_close_73
        · refine lv_aload hx hb dz_L_close_51 (lv_at hl 0 rfl) ?_
          refine lv_iconst (v := 0) hx hb dz_L_close_53 (by decide) ?_
          refine va_putN (D := (dC, dI)) (ci := 0) (v := .int 0) (ty := .int) (C := RzB) (T := TzB) (N := 9) hx hb hz inzB tyzB tyzB_ok nmzB hown hK hP hD hS (i1 + 5) (zl_box hlt_1) rfl 1 (by decide) (va_Nw.use rfl (hN _ zn_4)) (fun _ h9 => h9) rfl (by decide +kernel) rfl rfl (Nat.le_of_ble_eq_true rfl) dz_L_close_54 (fun H locs hP hD hS => ?_)
          obtain ⟨S_18, eS_18⟩ : ∃ z, z = zl_sB S_6 i1 (zb_sDr (zl_B S_6 i1) 0) := ⟨_, rfl⟩
          have hP : va_P (dC, dI) vwCl (zl_W cq ci h0 a S_18) H := by rw [eS_18, ← zl_box_set (zb_sDr (zl_B S_6 i1) 0) hlt_1]; exact hP
          have hD : va_D A (zl_W cq ci h0 a S_18) := by rw [eS_18, ← zl_box_set (zb_sDr (zl_B S_6 i1) 0) hlt_1]; exact hD
          have hok : zl_ok S_18 := by rw [eS_18]; exact hok
          have hlt_1 : i1 < zl_n S_18 := by rw [eS_18]; exact hlt_1
          refine lv_iconst (v := -1) hx hb dz_L_close_57 (by decide) ?_
          subst eS_6 eS_18
          have hE_19 : zl_close S p1 p2 = ((-1), zl_sB (zl_passTo S p2) i1 (zb_sDr (zl_B (zl_passTo S p2) i1) 0)) := by simp only [zl_close, hi_1, if_neg c_4, if_pos c_7, if_pos c_9]
          exact W.iret (v := (-1)) hx hb hr (fun t ht hW => ⟨⟨_, (), rfl, by show (-1) = (zl_close S p1 p2).1; rw [hE_19], by show va_P (dC, dI) vwCl (zl_W cq ci h0 a ((zl_close S p1 p2).2)) t.heap; rw [ht, hE_19]; exact hP, by show va_D A (zl_W cq ci h0 a ((zl_close S p1 p2).2)); rw [hE_19]; exact hD⟩, hS.F ht⟩) hS.2.2 dz_L_close_58
      · refine lv_bipush (v := -13) hx hb dz_L_close_40 (by decide) ?_
        subst eS_6
        have hE_20 : zl_close S p1 p2 = ((-13), zl_passTo S p2) := by simp only [zl_close, hi_1, if_neg c_4, if_neg c_7]
        exact W.iret (v := (-13)) hx hb hr (fun t ht hW => ⟨⟨_, (), rfl, by show (-13) = (zl_close S p1 p2).1; rw [hE_20], by show va_P (dC, dI) vwCl (zl_W cq ci h0 a ((zl_close S p1 p2).2)) t.heap; rw [ht, hE_20]; exact hP, by show va_D A (zl_W cq ci h0 a ((zl_close S p1 p2).2)); rw [hE_20]; exact hD⟩, hS.F ht⟩) hS.2.2 dz_L_close_42
    · refine lv_bipush (v := -12) hx hb dz_L_close_23 (by decide) ?_
      have hE_21 : zl_close S p1 p2 = ((-12), S) := by simp only [zl_close, hi_1, if_pos c_4]
      exact W.iret (v := (-12)) hx hb hr (fun t ht hW => ⟨⟨_, (), rfl, by show (-12) = (zl_close S p1 p2).1; rw [hE_21], by show va_P (dC, dI) vwCl (zl_W cq ci h0 a ((zl_close S p1 p2).2)) t.heap; rw [ht, hE_21]; exact hP, by show va_D A (zl_W cq ci h0 a ((zl_close S p1 p2).2)); rw [hE_21]; exact hD⟩, hS.F ht⟩) hS.2.2 dz_L_close_25
set_option maxHeartbeats 4000000 in
set_option maxRecDepth 100000 in
theorem ct_L_type (l : Launch) (dC : Nat → ClassId) (dI : Nat → Nat → Nat) (cq ci : ClassId) (h0 : Nat) (a : zl_Ad) (S : zl_S) (hok : zl_ok S) (sz : Nat) (p1 : Int32) (p2 : Int64) : Met l yz_L_type wz_L_type (zw_room 3 0 0) (zw_U zw_ns (dC, dI) vwCl (zl_tys cq ci) [.ref h0, .int p1, .long p2] (zl_W cq ci h0 a S) sz) (va_Qi (fun (r : Int32) (_ : Unit) => r = (zl_type S p1 p2).1) (fun (_ : Unit) (t : State) => va_P (dC, dI) vwCl (zl_W cq ci h0 a ((zl_type S p1 p2).2)) t.heap ∧ va_D (va_A (zl_W cq ci h0 a S) sz) (zl_W cq ci h0 a ((zl_type S p1 p2).2))) (va_A (zl_W cq ci h0 a S) sz)) 0 0 (va_A (zl_W cq ci h0 a S) sz) := by
  refine Met.ofW (cc := cz_L_type) (maxL := 6) (ret := (some .int)) (by decide) rfl ?_
  intro p e s m args below meth c s₁ B hml hv
  obtain ⟨rfl, hsz, hP, hK, hD0, hN⟩ := hv
  have hx := B.exec
  have hb := B.bytes
  have hr := B.returns
  have hts := atoms_spec (ws := wz_L_type) B.pre
  have hz : ∀ w ∈ zw_T, w.before ([.ref h0, .int p1, .long p2] : List Value).toArray s = true := fun w h => hts w (List.mem_cons_of_mem _ h)
  have hown : s.vm.findClass RzL = some m.cls := findClass_of_methodNamed B.named
  have hlocks := B.notSynchronized
  subst hsz
  have hD := hD0.self (sz := s.heap.size)
  generalize hAe : va_A (zl_W cq ci h0 a S) s.heap.size = A at hD ⊢
  have hA : ∀ q : Nat, s.heap.size ≤ q → A q := fun q h => by rw [← hAe]; exact Or.inr h
  have hS : va_S A s.heap s.heap [] := va_S.rf
  have hl := lv_entry ([.ref h0, .int p1, .long p2]) (n := 6) (Nat.le_of_ble_eq_true rfl)
  rw [lg_entry_eq]
  generalize (lg_sl ([.ref h0, .int p1, .long p2]) ++ List.replicate (6 - (lg_sl ([.ref h0, .int p1, .long p2])).length) Slot.unset).toArray = ls at hl ⊢
  have hl : lv_has ls 6 [(0, .ref h0), (1, .int p1), (2, .long p2)] := hl
  refine lv_iload_n hx hb dz_L_type_0 rfl (lv_at hl 1 rfl) ?_
  refine vp_callSi (va_Run.run (va_runS (As := [.int p1]) (rest := []) ⟨hx, hb, hml, hown, hz⟩ (ct_L_isCode l dC dI cq ci p1) (cwS 1 hz (zw_gS zi_108 zi_109 zi_33 zi_110) rfl rfl rfl (by decide +kernel) ⟨Nat.le_of_ble_eq_true rfl, Nat.le_of_ble_eq_true rfl⟩) (zw_preR zw_ns_ok (ws := []) (fun k q h => by simp at h) hK hN) rfl rfl hl.1 rfl (lv_room (Nat.le_of_ble_eq_true rfl)) dz_L_type_1 ⟨Nat.le_of_ble_eq_true rfl, Nat.le_of_ble_eq_true rfl⟩)) (fun r_1 hr_1 => ?_)
  have hr_1 : r_1 = zl_isCode p1 := hr_1
  subst hr_1
  refine lv_if_eq (tgt := 15) hx hb dz_L_type_4 (by decide) (fun c_2 => ?_) (fun c_2 => ?_)
  · refine lv_bipush (v := -12) hx hb dz_L_type_15 (by decide) ?_
    have hE_3 : zl_type S p1 p2 = ((-12), S) := by simp only [zl_type, if_pos c_2]
    exact W.iret (v := (-12)) hx hb hr (fun t ht hW => ⟨⟨_, (), rfl, by show (-12) = (zl_type S p1 p2).1; rw [hE_3], by show va_P (dC, dI) vwCl (zl_W cq ci h0 a ((zl_type S p1 p2).2)) t.heap; rw [ht, hE_3]; exact hP, by show va_D A (zl_W cq ci h0 a ((zl_type S p1 p2).2)); rw [hE_3]; exact hD⟩, hS.F ht⟩) hS.2.2 dz_L_type_17
  · refine lv_aload_n hx hb dz_L_type_7 rfl (lv_at hl 0 rfl) ?_
    refine lv_lload_n hx hb dz_L_type_8 rfl (lv_at hl 2 rfl) ?_
    refine vp_callSi (va_Run.run (va_runV (As := [.long p2]) (rest := []) ⟨hx, hb, hml, hown, hz⟩ (ct_L_isTime l dC dI cq ci h0 a S hok p2) (cwV 1 hz (zw_gV zi_139 zi_140 zi_6 zi_33 zi_141) rfl rfl rfl (by decide +kernel) ⟨Nat.le_of_ble_eq_true rfl, Nat.le_of_ble_eq_true rfl⟩) (zw_preRV zw_ns_ok hP hK hN (ci := 2) rfl (k := 0) rfl) rfl rfl hl.1 rfl (lv_room (Nat.le_of_ble_eq_true rfl)) dz_L_type_9 ⟨Nat.le_of_ble_eq_true rfl, Nat.le_of_ble_eq_true rfl⟩)) (fun r_4 hr_4 => ?_)
    have hr_4 : r_4 = zl_isTime S p2 := hr_4
    subst hr_4
    refine lv_if_ne (tgt := 18) hx hb dz_L_type_12 (by decide) (fun c_5 => ?_) (fun c_5 => ?_)
    · refine lv_aload_n hx hb dz_L_type_18 rfl (lv_at hl 0 rfl) ?_
      refine lv_lload_n hx hb dz_L_type_19 rfl (lv_at hl 2 rfl) ?_
      have hFc := zw_free hS hA hD
      refine va_callv (va_runV (As := [.long p2]) (rest := []) ⟨hx, hb, hml, hown, hz⟩ (ct_L_passTo l dC dI cq ci h0 a S hok s.heap.size p2) (cwV 1 hz (zw_gV zi_142 zi_143 zi_7 zi_33 zi_144) rfl rfl rfl (by decide +kernel) ⟨Nat.le_of_ble_eq_true rfl, Nat.le_of_ble_eq_true rfl⟩) (zw_preUV zw_ns_ok hP hD hK hN (ci := 2) rfl (k := 0) rfl) rfl rfl hl.1 rfl (lv_room (Nat.le_of_ble_eq_true rfl)) dz_L_type_20 ⟨Nat.le_of_ble_eq_true rfl, Nat.le_of_ble_eq_true rfl⟩) hS (fun q _ h => hFc q h) hFc (fun u_6 t_6 H locs ht hvm hw hB hz1 hk1 hS => ?_)
      obtain ⟨hP, hD⟩ := hB
      rw [ht] at hP
      have hD := hD.weaken (fun _ q _ h => hFc q.1 h)
      obtain ⟨S_7, eS_7⟩ : ∃ z, z = (zl_passTo S p2) := ⟨_, rfl⟩
      rw [← eS_7] at hP hD
      have hok : zl_ok S_7 := by rw [eS_7]; exact zl_ok_pass hok
      refine lv_lload_n hx hb dz_L_type_23 rfl (lv_at hl 2 rfl) ?_
      refine lv_aload_n hx hb dz_L_type_24 rfl (lv_at hl 0 rfl) ?_
      refine va_get (D := (dC, dI)) (ci := 2) (v := .long (zl_K S_7)) (C := RzL) (T := TzL) (N := 9) hx hb hz inzL hown hK hP 0 rfl rfl 8 (by decide) (hz _ zi_65) (fun _ h9 => h9) rfl dz_L_type_25 ?_
      refine W.lcmp hx hb dz_L_type_28 ?_
      refine lv_if_ge (tgt := 34) hx hb dz_L_type_29 (by decide) (fun c_8 => ?_) (fun c_8 => ?_)
      · refine lv_aload_n hx hb dz_L_type_34 rfl (lv_at hl 0 rfl) ?_
        refine lv_iload_n hx hb dz_L_type_35 rfl (lv_at hl 1 rfl) ?_
        refine vp_callSi (va_Run.run (va_runV (As := [.int p1]) (rest := []) ⟨hx, hb, hml, hown, hz⟩ (ct_L_boxNumberOfCode l dC dI cq ci h0 a S_7 hok p1) (cwV 1 hz (zw_gV zi_176 zi_177 zi_18 zi_33 zi_178) rfl rfl rfl (by decide +kernel) ⟨Nat.le_of_ble_eq_true rfl, Nat.le_of_ble_eq_true rfl⟩) (zw_preRV zw_ns_ok hP hK hN (ci := 2) rfl (k := 0) rfl) rfl rfl hl.1 rfl (lv_room (Nat.le_of_ble_eq_true rfl)) dz_L_type_36 ⟨Nat.le_of_ble_eq_true rfl, Nat.le_of_ble_eq_true rfl⟩)) (fun r_9 hr_9 => ?_)
        have hr_9 : r_9 = zl_boxNumberOfCode S_7 p1 := hr_9
        subst hr_9
        refine lv_istore (lv' := [(4, .int (zl_boxNumberOfCode S_7 p1)), (0, .ref h0), (1, .int p1), (2, .long p2)]) hx hb dz_L_type_39 hl (by decide) rfl (fun ls hl => ?_)
        refine lv_aload_n hx hb dz_L_type_41 rfl (lv_at hl 1 rfl) ?_
        refine lv_iload hx hb dz_L_type_42 (lv_at hl 0 rfl) ?_
        refine va_csq (va_Run.run (va_runV (As := [.int (zl_boxNumberOfCode S_7 p1)]) (rest := []) ⟨hx, hb, hml, hown, hz⟩ (ct_L_boxAt l dC dI cq ci h0 a S_7 hok (zl_boxNumberOfCode S_7 p1)) (cwV 1 hz (zw_gV zi_124 zi_125 zi_3 zi_33 zi_126) rfl rfl rfl (by decide +kernel) ⟨Nat.le_of_ble_eq_true rfl, Nat.le_of_ble_eq_true rfl⟩) (zw_preRV zw_ns_ok hP hK hN (ci := 2) rfl (k := 0) rfl) rfl rfl hl.1 rfl (lv_room (Nat.le_of_ble_eq_true rfl)) dz_L_type_44 ⟨Nat.le_of_ble_eq_true rfl, Nat.le_of_ble_eq_true rfl⟩)) (fun r_10 hr_10 => ?_)
        have hr_10 : r_10 = Option.map (zl_ab a) (zl_boxAt S_7 (zl_boxNumberOfCode S_7 p1)) := hr_10
        obtain ⟨o_10, ho_10⟩ : ∃ o, o = zl_boxAt S_7 (zl_boxNumberOfCode S_7 p1) := ⟨_, rfl⟩
        rw [← ho_10] at hr_10
        rcases o_10 with _ | i10
        · have hi_10 : zl_boxAt S_7 (zl_boxNumberOfCode S_7 p1) = none := ho_10.symm
          subst hr_10
          refine W.eq (g2 := F0 m 47 ls [.null]) rfl ?_
          refine lv_astoreN (lv' := [(5, .null), (4, .int (zl_boxNumberOfCode S_7 p1)), (0, .ref h0), (1, .int p1), (2, .long p2)]) hx hb dz_L_type_47 hl (by decide) rfl (fun ls hl => ?_)
          refine lv_aloadN hx hb dz_L_type_49 (lv_at hl 0 rfl) ?_
          refine lv_ifnullN (tgt := 62) hx hb dz_L_type_51 (by decide) ?_
          refine lv_aload_n hx hb dz_L_type_62 rfl (lv_at hl 2 rfl) ?_
          refine lv_lload_n hx hb dz_L_type_63 rfl (lv_at hl 4 rfl) ?_
          have hFc := zw_free hS hA hD
          refine va_callv (va_runV (As := [.long p2]) (rest := []) ⟨hx, hb, hml, hown, hz⟩ (ct_L_countWrongTry l dC dI cq ci h0 a S_7 hok H.size p2) (cwV 1 hz (zw_gV zi_190 zi_191 zi_21 zi_33 zi_192) rfl rfl rfl (by decide +kernel) ⟨Nat.le_of_ble_eq_true rfl, Nat.le_of_ble_eq_true rfl⟩) (zw_preUV zw_ns_ok hP hD hK hN (ci := 2) rfl (k := 0) rfl) rfl rfl hl.1 rfl (lv_room (Nat.le_of_ble_eq_true rfl)) dz_L_type_64 ⟨Nat.le_of_ble_eq_true rfl, Nat.le_of_ble_eq_true rfl⟩) hS (fun q _ h => hFc q h) hFc (fun u_11 t_11 H locs ht hvm hw hB hz1 hk1 hS => ?_)
          obtain ⟨hP, hD⟩ := hB
          rw [ht] at hP
          have hD := hD.weaken (fun _ q _ h => hFc q.1 h)
          obtain ⟨S_12, eS_12⟩ : ∃ z, z = (zl_wrong S_7 p2) := ⟨_, rfl⟩
          rw [← eS_12] at hP hD
          have hok : zl_ok S_12 := by rw [eS_12]; exact zl_ok_wrong hok
          refine lv_iconst (v := 0) hx hb dz_L_type_67 (by decide) ?_
          subst eS_7 eS_12
          have hE_13 : zl_type S p1 p2 = (0, zl_wrong (zl_passTo S p2) p2) := by simp only [zl_type, if_neg c_2, if_neg c_5, if_pos c_8, hi_10]
          exact W.iret (v := 0) hx hb hr (fun t ht hW => ⟨⟨_, (), rfl, by show 0 = (zl_type S p1 p2).1; rw [hE_13], by show va_P (dC, dI) vwCl (zl_W cq ci h0 a ((zl_type S p1 p2).2)) t.heap; rw [ht, hE_13]; exact hP, by show va_D A (zl_W cq ci h0 a ((zl_type S p1 p2).2)); rw [hE_13]; exact hD⟩, hS.F ht⟩) hS.2.2 dz_L_type_68
        · have hi_10 : zl_boxAt S_7 (zl_boxNumberOfCode S_7 p1) = some i10 := ho_10.symm
          have hlt_10 := zl_boxAt_lt hok hi_10
          subst hr_10
          refine W.eq (g2 := F0 m 47 ls [.ref (zl_ab a i10)]) rfl ?_
          refine lv_astore (lv' := [(5, .ref (zl_ab a i10)), (4, .int (zl_boxNumberOfCode S_7 p1)), (0, .ref h0), (1, .int p1), (2, .long p2)]) hx hb dz_L_type_47 hl (by decide) rfl (fun ls hl => ?_)
          refine lv_aload hx hb dz_L_type_49 (lv_at hl 0 rfl) ?_
          refine lv_ifnull hx hb dz_L_type_51 ?_
          refine lv_aload hx hb dz_L_type_54 (lv_at hl 0 rfl) ?_
          refine va_getN (D := (dC, dI)) (ci := 0) (v := .int (zb_Dr (zl_B S_7 i10))) (C := RzB) (T := TzB) (N := 9) hx hb hz inzB hown hK hP (i10 + 5) (zl_box hlt_10) rfl 1 (by decide) (va_Nw.use rfl (hN _ zn_4)) (fun _ h9 => h9) rfl dz_L_type_56 ?_
          refine lv_if_eq (tgt := 69) hx hb dz_L_type_59 (by decide) (fun c_14 => ?_) (fun c_14 => ?_)
          · refine lv_aload_n hx hb dz_L_type_69 rfl (lv_at hl 2 rfl) ?_
            refine lv_iconst (v := 0) hx hb dz_L_type_70 (by decide) ?_
            refine va_put (D := (dC, dI)) (ci := 2) (v := .int 0) (ty := .int) (C := RzL) (T := TzL) (N := 9) hx hb hz inzL tyzL tyzL_ok nmzL hown hK hP hD hS 0 rfl rfl 7 (by decide) (hz _ zi_64) (fun _ h9 => h9) rfl (by decide +kernel) rfl rfl (Nat.le_of_ble_eq_true rfl) dz_L_type_71 (fun H locs hP hD hS => ?_)
            obtain ⟨S_15, eS_15⟩ : ∃ z, z = zl_sR S_7 0 := ⟨_, rfl⟩
            have hP : va_P (dC, dI) vwCl (zl_W cq ci h0 a S_15) H := by rw [eS_15]; exact hP
            have hD : va_D A (zl_W cq ci h0 a S_15) := by rw [eS_15]; exact hD
            have hok : zl_ok S_15 := by rw [eS_15]; exact hok
            have hlt_10 : i10 < zl_n S_15 := by rw [eS_15]; exact hlt_10
            refine lv_aload hx hb dz_L_type_74 (lv_at hl 0 rfl) ?_
            have hFc := zw_free hS hA (show va_D A (zb_W (zl_ab a i10) (zl_B S_15 i10)) from zw_D1 hD (zl_box hlt_10))
            refine va_callv (va_runVN (As := []) (rest := []) ⟨hx, hb, hml, hown, hz⟩ (ct_B_clear l dC dI cq ci (zl_ab a i10) (zl_B S_15 i10) H.size) ⟨va_cnB 0 hz (zw_g1 zi_195) rfl rfl rfl (hN _ zn_21) (hz _ zi_36) (by decide +kernel) ⟨Nat.le_of_ble_eq_true rfl, Nat.le_of_ble_eq_true rfl⟩, hz _ zi_194, hz _ zi_22⟩ (zw_preUV zw_ns_ok (show va_P (dC, dI) vwCl (zb_W (zl_ab a i10) (zl_B S_15 i10)) H from zw_P1 hP (zl_box hlt_10)) (show va_D A (zb_W (zl_ab a i10) (zl_B S_15 i10)) from zw_D1 hD (zl_box hlt_10)) hK hN (ci := 0) rfl (k := 0) rfl) rfl rfl hl.1 rfl (lv_room (Nat.le_of_ble_eq_true rfl)) dz_L_type_76 ⟨Nat.le_of_ble_eq_true rfl, Nat.le_of_ble_eq_true rfl⟩) hS (fun q _ h => hFc q h) hFc (fun u_16 t_16 H locs ht hvm hw hB hz1 hk1 hS => ?_)
            have hB : va_P (dC, dI) vwCl (zb_W (zl_ab a i10) (zb_clear (zl_B S_15 i10))) t_16.heap := hB
            rw [ht] at hB
            obtain ⟨hP, hD⟩ := zl_joinB hlt_10 hP hD hk1 hB
            obtain ⟨S_17, eS_17⟩ : ∃ z, z = zl_sB S_15 i10 (zb_clear (zl_B S_15 i10)) := ⟨_, rfl⟩
            rw [← eS_17] at hP hD
            have hok : zl_ok S_17 := by rw [eS_17]; exact hok
            have hlt_10 : i10 < zl_n S_17 := by rw [eS_17]; exact hlt_10
            refine lv_aload hx hb dz_L_type_79 (lv_at hl 0 rfl) ?_
            refine lv_iconst (v := 1) hx hb dz_L_type_81 (by decide) ?_
            refine lv_lload_n hx hb dz_L_type_82 rfl (lv_at hl 4 rfl) ?_
            have hFc := zw_free hS hA (show va_D A (zb_W (zl_ab a i10) (zl_B S_17 i10)) from zw_D1 hD (zl_box hlt_10))
            refine va_callv (va_runVN (As := [.int 1, .long p2]) (rest := []) ⟨hx, hb, hml, hown, hz⟩ (ct_B_beginOpening l dC dI cq ci (zl_ab a i10) (zl_B S_17 i10) H.size 1 p2) ⟨va_cnB 2 hz (zw_g1 zi_197) rfl rfl rfl (hN _ zn_22) (hz _ zi_36) (by decide +kernel) ⟨Nat.le_of_ble_eq_true rfl, Nat.le_of_ble_eq_true rfl⟩, hz _ zi_196, hz _ zi_23⟩ (zw_preUV zw_ns_ok (show va_P (dC, dI) vwCl (zb_W (zl_ab a i10) (zl_B S_17 i10)) H from zw_P1 hP (zl_box hlt_10)) (show va_D A (zb_W (zl_ab a i10) (zl_B S_17 i10)) from zw_D1 hD (zl_box hlt_10)) hK hN (ci := 0) rfl (k := 0) rfl) rfl rfl hl.1 rfl (lv_room (Nat.le_of_ble_eq_true rfl)) dz_L_type_83 ⟨Nat.le_of_ble_eq_true rfl, Nat.le_of_ble_eq_true rfl⟩) hS (fun q _ h => hFc q h) hFc (fun u_18 t_18 H locs ht hvm hw hB hz1 hk1 hS => ?_)
            have hB : va_P (dC, dI) vwCl (zb_W (zl_ab a i10) (zb_begin (zl_B S_17 i10) 1 p2)) t_18.heap := hB
            rw [ht] at hB
            obtain ⟨hP, hD⟩ := zl_joinB hlt_10 hP hD hk1 hB
            obtain ⟨S_19, eS_19⟩ : ∃ z, z = zl_sB S_17 i10 (zb_begin (zl_B S_17 i10) 1 p2) := ⟨_, rfl⟩
            rw [← eS_19] at hP hD
            have hok : zl_ok S_19 := by rw [eS_19]; exact hok
            have hlt_10 : i10 < zl_n S_19 := by rw [eS_19]; exact hlt_10
            refine lv_iload hx hb dz_L_type_86 (lv_at hl 1 rfl) ?_
            subst eS_7 eS_15 eS_17 eS_19
            have hE_20 : zl_type S p1 p2 = (zl_boxNumberOfCode (zl_passTo S p2) p1, zl_sB (zl_sB (zl_sR (zl_passTo S p2) 0) i10 (zb_clear (zl_B (zl_sR (zl_passTo S p2) 0) i10))) i10 (zb_begin (zl_B (zl_sB (zl_sR (zl_passTo S p2) 0) i10 (zb_clear (zl_B (zl_sR (zl_passTo S p2) 0) i10))) i10) 1 p2)) := by simp only [zl_type, if_neg c_2, if_neg c_5, if_pos c_8, hi_10, if_pos c_14]
            exact W.iret (v := zl_boxNumberOfCode (zl_passTo S p2) p1) hx hb hr (fun t ht hW => ⟨⟨_, (), rfl, by show zl_boxNumberOfCode (zl_passTo S p2) p1 = (zl_type S p1 p2).1; rw [hE_20], by show va_P (dC, dI) vwCl (zl_W cq ci h0 a ((zl_type S p1 p2).2)) t.heap; rw [ht, hE_20]; exact hP, by show va_D A (zl_W cq ci h0 a ((zl_type S p1 p2).2)); rw [hE_20]; exact hD⟩, hS.F ht⟩) hS.2.2 dz_L_type_88
          · refine lv_aload_n hx hb dz_L_type_62 rfl (lv_at hl 2 rfl) ?_
            refine lv_lload_n hx hb dz_L_type_63 rfl (lv_at hl 4 rfl) ?_
            have hFc := zw_free hS hA hD
            refine va_callv (va_runV (As := [.long p2]) (rest := []) ⟨hx, hb, hml, hown, hz⟩ (ct_L_countWrongTry l dC dI cq ci h0 a S_7 hok H.size p2) (cwV 1 hz (zw_gV zi_190 zi_191 zi_21 zi_33 zi_192) rfl rfl rfl (by decide +kernel) ⟨Nat.le_of_ble_eq_true rfl, Nat.le_of_ble_eq_true rfl⟩) (zw_preUV zw_ns_ok hP hD hK hN (ci := 2) rfl (k := 0) rfl) rfl rfl hl.1 rfl (lv_room (Nat.le_of_ble_eq_true rfl)) dz_L_type_64 ⟨Nat.le_of_ble_eq_true rfl, Nat.le_of_ble_eq_true rfl⟩) hS (fun q _ h => hFc q h) hFc (fun u_21 t_21 H locs ht hvm hw hB hz1 hk1 hS => ?_)
            obtain ⟨hP, hD⟩ := hB
            rw [ht] at hP
            have hD := hD.weaken (fun _ q _ h => hFc q.1 h)
            obtain ⟨S_22, eS_22⟩ : ∃ z, z = (zl_wrong S_7 p2) := ⟨_, rfl⟩
            rw [← eS_22] at hP hD
            have hok : zl_ok S_22 := by rw [eS_22]; exact zl_ok_wrong hok
            have hlt_10 : i10 < zl_n S_22 := by rw [eS_22, zl_n_wrong]; exact hlt_10
            refine lv_iconst (v := 0) hx hb dz_L_type_67 (by decide) ?_
            subst eS_7 eS_22
            have hE_23 : zl_type S p1 p2 = (0, zl_wrong (zl_passTo S p2) p2) := by simp only [zl_type, if_neg c_2, if_neg c_5, if_pos c_8, hi_10, if_neg c_14]
            exact W.iret (v := 0) hx hb hr (fun t ht hW => ⟨⟨_, (), rfl, by show 0 = (zl_type S p1 p2).1; rw [hE_23], by show va_P (dC, dI) vwCl (zl_W cq ci h0 a ((zl_type S p1 p2).2)) t.heap; rw [ht, hE_23]; exact hP, by show va_D A (zl_W cq ci h0 a ((zl_type S p1 p2).2)); rw [hE_23]; exact hD⟩, hS.F ht⟩) hS.2.2 dz_L_type_68
      · refine lv_iconst (v := -1) hx hb dz_L_type_32 (by decide) ?_
        subst eS_7
        have hE_24 : zl_type S p1 p2 = ((-1), zl_passTo S p2) := by simp only [zl_type, if_neg c_2, if_neg c_5, if_neg c_8]
        exact W.iret (v := (-1)) hx hb hr (fun t ht hW => ⟨⟨_, (), rfl, by show (-1) = (zl_type S p1 p2).1; rw [hE_24], by show va_P (dC, dI) vwCl (zl_W cq ci h0 a ((zl_type S p1 p2).2)) t.heap; rw [ht, hE_24]; exact hP, by show va_D A (zl_W cq ci h0 a ((zl_type S p1 p2).2)); rw [hE_24]; exact hD⟩, hS.F ht⟩) hS.2.2 dz_L_type_33
    · refine lv_bipush (v := -12) hx hb dz_L_type_15 (by decide) ?_
      have hE_25 : zl_type S p1 p2 = ((-12), S) := by simp only [zl_type, if_neg c_2, if_pos c_5]
      exact W.iret (v := (-12)) hx hb hr (fun t ht hW => ⟨⟨_, (), rfl, by show (-12) = (zl_type S p1 p2).1; rw [hE_25], by show va_P (dC, dI) vwCl (zl_W cq ci h0 a ((zl_type S p1 p2).2)) t.heap; rw [ht, hE_25]; exact hP, by show va_D A (zl_W cq ci h0 a ((zl_type S p1 p2).2)); rw [hE_25]; exact hD⟩, hS.F ht⟩) hS.2.2 dz_L_type_17
set_option maxHeartbeats 4000000 in
set_option maxRecDepth 100000 in
theorem ct_L_code (l : Launch) (dC : Nat → ClassId) (dI : Nat → Nat → Nat) (cq ci : ClassId) (h0 : Nat) (a : zl_Ad) (S : zl_S) (hok : zl_ok S) (p1 : Int32) : Met l yz_L_code wz_L_code (zw_room 2 0 0) (zw_R zw_ns (dC, dI) vwCl (zl_tys cq ci) [.ref h0, .int p1] (zl_W cq ci h0 a S)) (vp_Si (fun r => r = zl_code S p1)) 0 0 (fun _ => False) := by
  refine Met.ofW (cc := cz_L_code) (maxL := 3) (ret := (some .int)) (by decide) rfl ?_
  intro p e s m args below meth c s₁ B hml hv
  obtain ⟨rfl, hP, hK, hN⟩ := hv
  have hx := B.exec
  have hb := B.bytes
  have hr := B.returns
  have hts := atoms_spec (ws := wz_L_code) B.pre
  have hz : ∀ w ∈ zw_T, w.before ([.ref h0, .int p1] : List Value).toArray s = true := fun w h => hts w (List.mem_cons_of_mem _ h)
  have hown : s.vm.findClass RzL = some m.cls := findClass_of_methodNamed B.named
  have hlocks := B.notSynchronized
  have hl := lv_entry ([.ref h0, .int p1]) (n := 3) (Nat.le_of_ble_eq_true rfl)
  rw [lg_entry_eq]
  generalize (lg_sl ([.ref h0, .int p1]) ++ List.replicate (3 - (lg_sl ([.ref h0, .int p1])).length) Slot.unset).toArray = ls at hl ⊢
  have hl : lv_has ls 3 [(0, .ref h0), (1, .int p1)] := hl
  refine lv_iload_n hx hb dz_L_code_0 rfl (lv_at hl 1 rfl) ?_
  refine vp_callSi (va_Run.run (va_runS (As := [.int p1]) (rest := []) ⟨hx, hb, hml, hown, hz⟩ (ct_L_isItem l dC dI cq ci p1) (cwS 1 hz (zw_gS zi_136 zi_137 zi_33 zi_138) rfl rfl rfl (by decide +kernel) ⟨Nat.le_of_ble_eq_true rfl, Nat.le_of_ble_eq_true rfl⟩) (zw_preR zw_ns_ok (ws := []) (fun k q h => by simp at h) hK hN) rfl rfl hl.1 rfl (lv_room (Nat.le_of_ble_eq_true rfl)) dz_L_code_1 ⟨Nat.le_of_ble_eq_true rfl, Nat.le_of_ble_eq_true rfl⟩)) (fun r_1 hr_1 => ?_)
  have hr_1 : r_1 = zl_isItem p1 := hr_1
  subst hr_1
  refine lv_if_ne (tgt := 10) hx hb dz_L_code_4 (by decide) (fun c_2 => ?_) (fun c_2 => ?_)
  · refine lv_aload_n hx hb dz_L_code_10 rfl (lv_at hl 0 rfl) ?_
    refine lv_iload_n hx hb dz_L_code_11 rfl (lv_at hl 1 rfl) ?_
    refine va_csq (va_Run.run (va_runV (As := [.int p1]) (rest := []) ⟨hx, hb, hml, hown, hz⟩ (ct_L_boxOfItem l dC dI cq ci h0 a S hok p1) (cwV 1 hz (zw_gV zi_160 zi_161 zi_13 zi_33 zi_162) rfl rfl rfl (by decide +kernel) ⟨Nat.le_of_ble_eq_true rfl, Nat.le_of_ble_eq_true rfl⟩) (zw_preRV zw_ns_ok hP hK hN (ci := 2) rfl (k := 0) rfl) rfl rfl hl.1 rfl (lv_room (Nat.le_of_ble_eq_true rfl)) dz_L_code_12 ⟨Nat.le_of_ble_eq_true rfl, Nat.le_of_ble_eq_true rfl⟩)) (fun r_3 hr_3 => ?_)
    have hr_3 : r_3 = Option.map (zl_ab a) (zl_boxOfItem S p1) := hr_3
    obtain ⟨o_3, ho_3⟩ : ∃ o, o = zl_boxOfItem S p1 := ⟨_, rfl⟩
    rw [← ho_3] at hr_3
    rcases o_3 with _ | i3
    · have hi_3 : zl_boxOfItem S p1 = none := ho_3.symm
      subst hr_3
      refine W.eq (g2 := F0 m 15 ls [.null]) rfl ?_
      refine lv_astore_nN (lv' := [(2, .null), (0, .ref h0), (1, .int p1)]) hx hb dz_L_code_15 rfl hl (by decide) rfl (fun ls hl => ?_)
      refine lv_aload_nN hx hb dz_L_code_16 rfl (lv_at hl 0 rfl) ?_
      refine lv_ifnonnullN hx hb dz_L_code_17 ?_
      refine lv_iconst (v := -1) hx hb dz_L_code_20 (by decide) ?_
      refine lv_goto (tgt := 28) hx hb dz_L_code_21 (by decide) ?_
      exact W.iret (v := (-1)) hx hb hr (fun t ht hW => ⟨_, rfl, by simp only [zl_code, if_neg c_2, hi_3], ht⟩) (fun _ h => by cases h) dz_L_code_28
    · have hi_3 : zl_boxOfItem S p1 = some i3 := ho_3.symm
      have hlt_3 := zl_boxOfItem_lt hok hi_3
      subst hr_3
      refine W.eq (g2 := F0 m 15 ls [.ref (zl_ab a i3)]) rfl ?_
      refine lv_astore_n (lv' := [(2, .ref (zl_ab a i3)), (0, .ref h0), (1, .int p1)]) hx hb dz_L_code_15 rfl hl (by decide) rfl (fun ls hl => ?_)
      refine lv_aload_n hx hb dz_L_code_16 rfl (lv_at hl 0 rfl) ?_
      refine lv_ifnonnull (tgt := 24) hx hb dz_L_code_17 (by decide) ?_
      refine lv_aload_n hx hb dz_L_code_24 rfl (lv_at hl 0 rfl) ?_
      refine va_getN (D := (dC, dI)) (ci := 0) (v := .int (zb_Co (zl_B S i3))) (C := RzB) (T := TzB) (N := 9) hx hb hz inzB hown hK hP (i3 + 5) (zl_box hlt_3) rfl 5 (by decide) (va_Nw.use rfl (hN _ zn_6)) (fun _ h9 => h9) rfl dz_L_code_25 ?_
      exact W.iret (v := zb_Co (zl_B S i3)) hx hb hr (fun t ht hW => ⟨_, rfl, by simp only [zl_code, if_neg c_2, hi_3], ht⟩) (fun _ h => by cases h) dz_L_code_28
  · refine lv_bipush (v := -12) hx hb dz_L_code_7 (by decide) ?_
    exact W.iret (v := (-12)) hx hb hr (fun t ht hW => ⟨_, rfl, by simp only [zl_code, if_pos c_2], ht⟩) (fun _ h => by cases h) dz_L_code_9
set_option maxHeartbeats 4000000 in
set_option maxRecDepth 100000 in
theorem ct_L_door (l : Launch) (dC : Nat → ClassId) (dI : Nat → Nat → Nat) (cq ci : ClassId) (h0 : Nat) (a : zl_Ad) (S : zl_S) (hok : zl_ok S) (sz : Nat) (p1 : Int32) (p2 : Int32) (p3 : Int64) : Met l yz_L_door wz_L_door (zw_room 3 0 0) (zw_U zw_ns (dC, dI) vwCl (zl_tys cq ci) [.ref h0, .int p1, .int p2, .long p3] (zl_W cq ci h0 a S) sz) (va_Qi (fun (r : Int32) (_ : Unit) => r = (zl_door S p1 p2 p3).1) (fun (_ : Unit) (t : State) => va_P (dC, dI) vwCl (zl_W cq ci h0 a ((zl_door S p1 p2 p3).2)) t.heap ∧ va_D (va_A (zl_W cq ci h0 a S) sz) (zl_W cq ci h0 a ((zl_door S p1 p2 p3).2))) (va_A (zl_W cq ci h0 a S) sz)) 0 0 (va_A (zl_W cq ci h0 a S) sz) := by
  refine Met.ofW (cc := cz_L_door) (maxL := 6) (ret := (some .int)) (by decide) rfl ?_
  intro p e s m args below meth c s₁ B hml hv
  obtain ⟨rfl, hsz, hP, hK, hD0, hN⟩ := hv
  have hx := B.exec
  have hb := B.bytes
  have hr := B.returns
  have hts := atoms_spec (ws := wz_L_door) B.pre
  have hz : ∀ w ∈ zw_T, w.before ([.ref h0, .int p1, .int p2, .long p3] : List Value).toArray s = true := fun w h => hts w (List.mem_cons_of_mem _ h)
  have hown : s.vm.findClass RzL = some m.cls := findClass_of_methodNamed B.named
  have hlocks := B.notSynchronized
  subst hsz
  have hD := hD0.self (sz := s.heap.size)
  generalize hAe : va_A (zl_W cq ci h0 a S) s.heap.size = A at hD ⊢
  have hA : ∀ q : Nat, s.heap.size ≤ q → A q := fun q h => by rw [← hAe]; exact Or.inr h
  have hS : va_S A s.heap s.heap [] := va_S.rf
  have hl := lv_entry ([.ref h0, .int p1, .int p2, .long p3]) (n := 6) (Nat.le_of_ble_eq_true rfl)
  rw [lg_entry_eq]
  generalize (lg_sl ([.ref h0, .int p1, .int p2, .long p3]) ++ List.replicate (6 - (lg_sl ([.ref h0, .int p1, .int p2, .long p3])).length) Slot.unset).toArray = ls at hl ⊢
  have hl : lv_has ls 6 [(0, .ref h0), (1, .int p1), (2, .int p2), (3, .long p3)] := hl
  refine lv_aload_n hx hb dz_L_door_0 rfl (lv_at hl 0 rfl) ?_
  refine lv_iload_n hx hb dz_L_door_1 rfl (lv_at hl 1 rfl) ?_
  refine va_csq (va_Run.run (va_runV (As := [.int p1]) (rest := []) ⟨hx, hb, hml, hown, hz⟩ (ct_L_boxAt l dC dI cq ci h0 a S hok p1) (cwV 1 hz (zw_gV zi_124 zi_125 zi_3 zi_33 zi_126) rfl rfl rfl (by decide +kernel) ⟨Nat.le_of_ble_eq_true rfl, Nat.le_of_ble_eq_true rfl⟩) (zw_preRV zw_ns_ok hP hK hN (ci := 2) rfl (k := 0) rfl) rfl rfl hl.1 rfl (lv_room (Nat.le_of_ble_eq_true rfl)) dz_L_door_2 ⟨Nat.le_of_ble_eq_true rfl, Nat.le_of_ble_eq_true rfl⟩)) (fun r_1 hr_1 => ?_)
  have hr_1 : r_1 = Option.map (zl_ab a) (zl_boxAt S p1) := hr_1
  obtain ⟨o_1, ho_1⟩ : ∃ o, o = zl_boxAt S p1 := ⟨_, rfl⟩
  rw [← ho_1] at hr_1
  rcases o_1 with _ | i1
  · have hi_1 : zl_boxAt S p1 = none := ho_1.symm
    subst hr_1
    refine W.eq (g2 := F0 m 5 ls [.null]) rfl ?_
    refine lv_astoreN (lv' := [(5, .null), (0, .ref h0), (1, .int p1), (2, .int p2), (3, .long p3)]) hx hb dz_L_door_5 hl (by decide) rfl (fun ls hl => ?_)
    refine lv_aloadN hx hb dz_L_door_7 (lv_at hl 0 rfl) ?_
    refine lv_ifnonnullN hx hb dz_L_door_9 ?_
    refine lv_bipush (v := -11) hx hb dz_L_door_12 (by decide) ?_
    have hE_2 : zl_door S p1 p2 p3 = ((-11), S) := by simp only [zl_door, hi_1]
    exact W.iret (v := (-11)) hx hb hr (fun t ht hW => ⟨⟨_, (), rfl, by show (-11) = (zl_door S p1 p2 p3).1; rw [hE_2], by show va_P (dC, dI) vwCl (zl_W cq ci h0 a ((zl_door S p1 p2 p3).2)) t.heap; rw [ht, hE_2]; exact hP, by show va_D A (zl_W cq ci h0 a ((zl_door S p1 p2 p3).2)); rw [hE_2]; exact hD⟩, hS.F ht⟩) hS.2.2 dz_L_door_14
  · have hi_1 : zl_boxAt S p1 = some i1 := ho_1.symm
    have hlt_1 := zl_boxAt_lt hok hi_1
    subst hr_1
    refine W.eq (g2 := F0 m 5 ls [.ref (zl_ab a i1)]) rfl ?_
    refine lv_astore (lv' := [(5, .ref (zl_ab a i1)), (0, .ref h0), (1, .int p1), (2, .int p2), (3, .long p3)]) hx hb dz_L_door_5 hl (by decide) rfl (fun ls hl => ?_)
    refine lv_aload hx hb dz_L_door_7 (lv_at hl 0 rfl) ?_
    refine lv_ifnonnull (tgt := 15) hx hb dz_L_door_9 (by decide) ?_
    refine lv_iload_n hx hb dz_L_door_15 rfl (lv_at hl 3 rfl) ?_
    refine vp_callSi (va_Run.run (va_runSN (As := [.int p2]) (rest := []) ⟨hx, hb, hml, hown, hz⟩ (ct_B_isEvent l dC dI cq ci p2) ⟨va_cnB 1 hz (zw_g1 zi_207) rfl rfl rfl (hN _ zn_23) (hz _ zi_36) (by decide +kernel) ⟨Nat.le_of_ble_eq_true rfl, Nat.le_of_ble_eq_true rfl⟩, hz _ zi_206, trivial⟩ (zw_preR zw_ns_ok (ws := []) (fun k q h => by simp at h) hK hN) rfl rfl hl.1 rfl (lv_room (Nat.le_of_ble_eq_true rfl)) dz_L_door_16 ⟨Nat.le_of_ble_eq_true rfl, Nat.le_of_ble_eq_true rfl⟩)) (fun r_3 hr_3 => ?_)
    have hr_3 : r_3 = zb_isEvent p2 := hr_3
    subst hr_3
    refine lv_if_eq (tgt := 30) hx hb dz_L_door_19 (by decide) (fun c_4 => ?_) (fun c_4 => ?_)
    · refine lv_bipush (v := -12) hx hb dz_L_door_30 (by decide) ?_
      have hE_5 : zl_door S p1 p2 p3 = ((-12), S) := by simp only [zl_door, hi_1, if_pos c_4]
      exact W.iret (v := (-12)) hx hb hr (fun t ht hW => ⟨⟨_, (), rfl, by show (-12) = (zl_door S p1 p2 p3).1; rw [hE_5], by show va_P (dC, dI) vwCl (zl_W cq ci h0 a ((zl_door S p1 p2 p3).2)) t.heap; rw [ht, hE_5]; exact hP, by show va_D A (zl_W cq ci h0 a ((zl_door S p1 p2 p3).2)); rw [hE_5]; exact hD⟩, hS.F ht⟩) hS.2.2 dz_L_door_32
    · refine lv_aload_n hx hb dz_L_door_22 rfl (lv_at hl 1 rfl) ?_
      refine lv_lload_n hx hb dz_L_door_23 rfl (lv_at hl 4 rfl) ?_
      refine vp_callSi (va_Run.run (va_runV (As := [.long p3]) (rest := []) ⟨hx, hb, hml, hown, hz⟩ (ct_L_isTime l dC dI cq ci h0 a S hok p3) (cwV 1 hz (zw_gV zi_139 zi_140 zi_6 zi_33 zi_141) rfl rfl rfl (by decide +kernel) ⟨Nat.le_of_ble_eq_true rfl, Nat.le_of_ble_eq_true rfl⟩) (zw_preRV zw_ns_ok hP hK hN (ci := 2) rfl (k := 0) rfl) rfl rfl hl.1 rfl (lv_room (Nat.le_of_ble_eq_true rfl)) dz_L_door_24 ⟨Nat.le_of_ble_eq_true rfl, Nat.le_of_ble_eq_true rfl⟩)) (fun r_6 hr_6 => ?_)
      have hr_6 : r_6 = zl_isTime S p3 := hr_6
      subst hr_6
      refine lv_if_ne (tgt := 33) hx hb dz_L_door_27 (by decide) (fun c_7 => ?_) (fun c_7 => ?_)
      · refine lv_aload_n hx hb dz_L_door_33 rfl (lv_at hl 1 rfl) ?_
        refine lv_lload_n hx hb dz_L_door_34 rfl (lv_at hl 4 rfl) ?_
        have hFc := zw_free hS hA hD
        refine va_callv (va_runV (As := [.long p3]) (rest := []) ⟨hx, hb, hml, hown, hz⟩ (ct_L_passTo l dC dI cq ci h0 a S hok s.heap.size p3) (cwV 1 hz (zw_gV zi_142 zi_143 zi_7 zi_33 zi_144) rfl rfl rfl (by decide +kernel) ⟨Nat.le_of_ble_eq_true rfl, Nat.le_of_ble_eq_true rfl⟩) (zw_preUV zw_ns_ok hP hD hK hN (ci := 2) rfl (k := 0) rfl) rfl rfl hl.1 rfl (lv_room (Nat.le_of_ble_eq_true rfl)) dz_L_door_35 ⟨Nat.le_of_ble_eq_true rfl, Nat.le_of_ble_eq_true rfl⟩) hS (fun q _ h => hFc q h) hFc (fun u_8 t_8 H locs ht hvm hw hB hz1 hk1 hS => ?_)
        obtain ⟨hP, hD⟩ := hB
        rw [ht] at hP
        have hD := hD.weaken (fun _ q _ h => hFc q.1 h)
        obtain ⟨S_9, eS_9⟩ : ∃ z, z = (zl_passTo S p3) := ⟨_, rfl⟩
        rw [← eS_9] at hP hD
        have hok : zl_ok S_9 := by rw [eS_9]; exact zl_ok_pass hok
        have hlt_1 : i1 < zl_n S_9 := by rw [eS_9, zl_n_pass]; exact hlt_1
        refine lv_aload hx hb dz_L_door_38 (lv_at hl 0 rfl) ?_
        refine lv_iload_n hx hb dz_L_door_40 rfl (lv_at hl 3 rfl) ?_
        refine vp_callSi (va_Run.run (va_runVN (As := [.int p2]) (rest := []) ⟨hx, hb, hml, hown, hz⟩ (ct_B_admits l dC dI cq ci (zl_ab a i1) (zl_B S_9 i1) p2) ⟨va_cnB 1 hz (zw_g1 zi_209) rfl rfl rfl (hN _ zn_24) (hz _ zi_36) (by decide +kernel) ⟨Nat.le_of_ble_eq_true rfl, Nat.le_of_ble_eq_true rfl⟩, hz _ zi_208, hz _ zi_24⟩ (zw_preRV zw_ns_ok (show va_P (dC, dI) vwCl (zb_W (zl_ab a i1) (zl_B S_9 i1)) H from zw_P1 hP (zl_box hlt_1)) hK hN (ci := 0) rfl (k := 0) rfl) rfl rfl hl.1 rfl (lv_room (Nat.le_of_ble_eq_true rfl)) dz_L_door_41 ⟨Nat.le_of_ble_eq_true rfl, Nat.le_of_ble_eq_true rfl⟩)) (fun r_10 hr_10 => ?_)
        have hr_10 : r_10 = zb_admits (zl_B S_9 i1) p2 := hr_10
        subst hr_10
        refine lv_if_ne (tgt := 50) hx hb dz_L_door_44 (by decide) (fun c_11 => ?_) (fun c_11 => ?_)
        · refine lv_aload hx hb dz_L_door_50 (lv_at hl 0 rfl) ?_
          refine lv_iload_n hx hb dz_L_door_52 rfl (lv_at hl 3 rfl) ?_
          refine lv_lload_n hx hb dz_L_door_53 rfl (lv_at hl 4 rfl) ?_
          have hFc := zw_free hS hA (show va_D A (zb_W (zl_ab a i1) (zl_B S_9 i1)) from zw_D1 hD (zl_box hlt_1))
          refine va_callv (va_runVN (As := [.int p2, .long p3]) (rest := []) ⟨hx, hb, hml, hown, hz⟩ (ct_B_undergo l dC dI cq ci (zl_ab a i1) (zl_B S_9 i1) H.size p2 p3) ⟨va_cnB 2 hz (zw_g1 zi_212) rfl rfl rfl (hN _ zn_25) (hz _ zi_36) (by decide +kernel) ⟨Nat.le_of_ble_eq_true rfl, Nat.le_of_ble_eq_true rfl⟩, hz _ zi_211, hz _ zi_25⟩ (zw_preUV zw_ns_ok (show va_P (dC, dI) vwCl (zb_W (zl_ab a i1) (zl_B S_9 i1)) H from zw_P1 hP (zl_box hlt_1)) (show va_D A (zb_W (zl_ab a i1) (zl_B S_9 i1)) from zw_D1 hD (zl_box hlt_1)) hK hN (ci := 0) rfl (k := 0) rfl) rfl rfl hl.1 rfl (lv_room (Nat.le_of_ble_eq_true rfl)) dz_L_door_54 ⟨Nat.le_of_ble_eq_true rfl, Nat.le_of_ble_eq_true rfl⟩) hS (fun q _ h => hFc q h) hFc (fun u_12 t_12 H locs ht hvm hw hB hz1 hk1 hS => ?_)
          have hB : va_P (dC, dI) vwCl (zb_W (zl_ab a i1) (zb_undergo (zl_B S_9 i1) p2 p3)) t_12.heap := hB
          rw [ht] at hB
          obtain ⟨hP, hD⟩ := zl_joinB hlt_1 hP hD hk1 hB
          obtain ⟨S_13, eS_13⟩ : ∃ z, z = zl_sB S_9 i1 (zb_undergo (zl_B S_9 i1) p2 p3) := ⟨_, rfl⟩
          rw [← eS_13] at hP hD
          have hok : zl_ok S_13 := by rw [eS_13]; exact hok
          have hlt_1 : i1 < zl_n S_13 := by rw [eS_13]; exact hlt_1
          refine lv_aload hx hb dz_L_door_57 (lv_at hl 0 rfl) ?_
          refine va_getN (D := (dC, dI)) (ci := 0) (v := .int (zb_Dr (zl_B S_13 i1))) (C := RzB) (T := TzB) (N := 9) hx hb hz inzB hown hK hP (i1 + 5) (zl_box hlt_1) rfl 1 (by decide) (va_Nw.use rfl (hN _ zn_4)) (fun _ h9 => h9) rfl dz_L_door_59 ?_
          subst eS_9 eS_13
          have hE_14 : zl_door S p1 p2 p3 = (zb_Dr (zl_B (zl_sB (zl_passTo S p3) i1 (zb_undergo (zl_B (zl_passTo S p3) i1) p2 p3)) i1), zl_sB (zl_passTo S p3) i1 (zb_undergo (zl_B (zl_passTo S p3) i1) p2 p3)) := by simp only [zl_door, hi_1, if_neg c_4, if_neg c_7, if_neg c_11]
          exact W.iret (v := zb_Dr (zl_B (zl_sB (zl_passTo S p3) i1 (zb_undergo (zl_B (zl_passTo S p3) i1) p2 p3)) i1)) hx hb hr (fun t ht hW => ⟨⟨_, (), rfl, by show zb_Dr (zl_B (zl_sB (zl_passTo S p3) i1 (zb_undergo (zl_B (zl_passTo S p3) i1) p2 p3)) i1) = (zl_door S p1 p2 p3).1; rw [hE_14], by show va_P (dC, dI) vwCl (zl_W cq ci h0 a ((zl_door S p1 p2 p3).2)) t.heap; rw [ht, hE_14]; exact hP, by show va_D A (zl_W cq ci h0 a ((zl_door S p1 p2 p3).2)); rw [hE_14]; exact hD⟩, hS.F ht⟩) hS.2.2 dz_L_door_62
        · refine lv_bipush (v := -13) hx hb dz_L_door_47 (by decide) ?_
          subst eS_9
          have hE_15 : zl_door S p1 p2 p3 = ((-13), zl_passTo S p3) := by simp only [zl_door, hi_1, if_neg c_4, if_neg c_7, if_pos c_11]
          exact W.iret (v := (-13)) hx hb hr (fun t ht hW => ⟨⟨_, (), rfl, by show (-13) = (zl_door S p1 p2 p3).1; rw [hE_15], by show va_P (dC, dI) vwCl (zl_W cq ci h0 a ((zl_door S p1 p2 p3).2)) t.heap; rw [ht, hE_15]; exact hP, by show va_D A (zl_W cq ci h0 a ((zl_door S p1 p2 p3).2)); rw [hE_15]; exact hD⟩, hS.F ht⟩) hS.2.2 dz_L_door_49
      · refine lv_bipush (v := -12) hx hb dz_L_door_30 (by decide) ?_
        have hE_16 : zl_door S p1 p2 p3 = ((-12), S) := by simp only [zl_door, hi_1, if_neg c_4, if_pos c_7]
        exact W.iret (v := (-12)) hx hb hr (fun t ht hW => ⟨⟨_, (), rfl, by show (-12) = (zl_door S p1 p2 p3).1; rw [hE_16], by show va_P (dC, dI) vwCl (zl_W cq ci h0 a ((zl_door S p1 p2 p3).2)) t.heap; rw [ht, hE_16]; exact hP, by show va_D A (zl_W cq ci h0 a ((zl_door S p1 p2 p3).2)); rw [hE_16]; exact hD⟩, hS.F ht⟩) hS.2.2 dz_L_door_32
set_option maxHeartbeats 4000000 in
set_option maxRecDepth 100000 in
theorem ct_L_tick (l : Launch) (dC : Nat → ClassId) (dI : Nat → Nat → Nat) (cq ci : ClassId) (h0 : Nat) (a : zl_Ad) (S : zl_S) (hok : zl_ok S) (sz : Nat) (p1 : Int64) : Met l yz_L_tick wz_L_tick (zw_room 3 0 0) (zw_U zw_ns (dC, dI) vwCl (zl_tys cq ci) [.ref h0, .long p1] (zl_W cq ci h0 a S) sz) (va_Qi (fun (r : Int32) (_ : Unit) => r = (zl_tick S p1).1) (fun (_ : Unit) (t : State) => va_P (dC, dI) vwCl (zl_W cq ci h0 a ((zl_tick S p1).2)) t.heap ∧ va_D (va_A (zl_W cq ci h0 a S) sz) (zl_W cq ci h0 a ((zl_tick S p1).2))) (va_A (zl_W cq ci h0 a S) sz)) 0 0 (va_A (zl_W cq ci h0 a S) sz) := by
  refine Met.ofW (cc := cz_L_tick) (maxL := 4) (ret := (some .int)) (by decide) rfl ?_
  intro p e s m args below meth c s₁ B hml hv
  obtain ⟨rfl, hsz, hP, hK, hD0, hN⟩ := hv
  have hx := B.exec
  have hb := B.bytes
  have hr := B.returns
  have hts := atoms_spec (ws := wz_L_tick) B.pre
  have hz : ∀ w ∈ zw_T, w.before ([.ref h0, .long p1] : List Value).toArray s = true := fun w h => hts w (List.mem_cons_of_mem _ h)
  have hown : s.vm.findClass RzL = some m.cls := findClass_of_methodNamed B.named
  have hlocks := B.notSynchronized
  subst hsz
  have hD := hD0.self (sz := s.heap.size)
  generalize hAe : va_A (zl_W cq ci h0 a S) s.heap.size = A at hD ⊢
  have hA : ∀ q : Nat, s.heap.size ≤ q → A q := fun q h => by rw [← hAe]; exact Or.inr h
  have hS : va_S A s.heap s.heap [] := va_S.rf
  have hl := lv_entry ([.ref h0, .long p1]) (n := 4) (Nat.le_of_ble_eq_true rfl)
  rw [lg_entry_eq]
  generalize (lg_sl ([.ref h0, .long p1]) ++ List.replicate (4 - (lg_sl ([.ref h0, .long p1])).length) Slot.unset).toArray = ls at hl ⊢
  have hl : lv_has ls 4 [(0, .ref h0), (1, .long p1)] := hl
  refine lv_aload_n hx hb dz_L_tick_0 rfl (lv_at hl 0 rfl) ?_
  refine lv_lload_n hx hb dz_L_tick_1 rfl (lv_at hl 1 rfl) ?_
  refine vp_callSi (va_Run.run (va_runV (As := [.long p1]) (rest := []) ⟨hx, hb, hml, hown, hz⟩ (ct_L_isTime l dC dI cq ci h0 a S hok p1) (cwV 1 hz (zw_gV zi_139 zi_140 zi_6 zi_33 zi_141) rfl rfl rfl (by decide +kernel) ⟨Nat.le_of_ble_eq_true rfl, Nat.le_of_ble_eq_true rfl⟩) (zw_preRV zw_ns_ok hP hK hN (ci := 2) rfl (k := 0) rfl) rfl rfl hl.1 rfl (lv_room (Nat.le_of_ble_eq_true rfl)) dz_L_tick_2 ⟨Nat.le_of_ble_eq_true rfl, Nat.le_of_ble_eq_true rfl⟩)) (fun r_1 hr_1 => ?_)
  have hr_1 : r_1 = zl_isTime S p1 := hr_1
  subst hr_1
  refine lv_if_ne (tgt := 11) hx hb dz_L_tick_5 (by decide) (fun c_2 => ?_) (fun c_2 => ?_)
  · refine lv_aload_n hx hb dz_L_tick_11 rfl (lv_at hl 0 rfl) ?_
    refine lv_lload_n hx hb dz_L_tick_12 rfl (lv_at hl 1 rfl) ?_
    have hFc := zw_free hS hA hD
    refine va_callv (va_runV (As := [.long p1]) (rest := []) ⟨hx, hb, hml, hown, hz⟩ (ct_L_passTo l dC dI cq ci h0 a S hok s.heap.size p1) (cwV 1 hz (zw_gV zi_142 zi_143 zi_7 zi_33 zi_144) rfl rfl rfl (by decide +kernel) ⟨Nat.le_of_ble_eq_true rfl, Nat.le_of_ble_eq_true rfl⟩) (zw_preUV zw_ns_ok hP hD hK hN (ci := 2) rfl (k := 0) rfl) rfl rfl hl.1 rfl (lv_room (Nat.le_of_ble_eq_true rfl)) dz_L_tick_13 ⟨Nat.le_of_ble_eq_true rfl, Nat.le_of_ble_eq_true rfl⟩) hS (fun q _ h => hFc q h) hFc (fun u_3 t_3 H locs ht hvm hw hB hz1 hk1 hS => ?_)
    obtain ⟨hP, hD⟩ := hB
    rw [ht] at hP
    have hD := hD.weaken (fun _ q _ h => hFc q.1 h)
    obtain ⟨S_4, eS_4⟩ : ∃ z, z = (zl_passTo S p1) := ⟨_, rfl⟩
    rw [← eS_4] at hP hD
    have hok : zl_ok S_4 := by rw [eS_4]; exact zl_ok_pass hok
    refine lv_aload_n hx hb dz_L_tick_16 rfl (lv_at hl 0 rfl) ?_
    refine va_get (D := (dC, dI)) (ci := 2) (v := .int (zl_A S_4)) (C := RzL) (T := TzL) (N := 9) hx hb hz inzL hown hK hP 0 rfl rfl 6 (by decide) (hz _ zi_63) (fun _ h9 => h9) rfl dz_L_tick_17 ?_
    refine lv_istore_n (lv' := [(3, .int (zl_A S_4)), (0, .ref h0), (1, .long p1)]) hx hb dz_L_tick_20 rfl hl (by decide) rfl (fun ls hl => ?_)
    refine lv_aload_n hx hb dz_L_tick_21 rfl (lv_at hl 1 rfl) ?_
    refine lv_iconst (v := 0) hx hb dz_L_tick_22 (by decide) ?_
    refine va_put (D := (dC, dI)) (ci := 2) (v := .int 0) (ty := .int) (C := RzL) (T := TzL) (N := 9) hx hb hz inzL tyzL tyzL_ok nmzL hown hK hP hD hS 0 rfl rfl 6 (by decide) (hz _ zi_63) (fun _ h9 => h9) rfl (by decide +kernel) rfl rfl (Nat.le_of_ble_eq_true rfl) dz_L_tick_23 (fun H locs hP hD hS => ?_)
    obtain ⟨S_5, eS_5⟩ : ∃ z, z = zl_sA S_4 0 := ⟨_, rfl⟩
    have hP : va_P (dC, dI) vwCl (zl_W cq ci h0 a S_5) H := by rw [eS_5]; exact hP
    have hD : va_D A (zl_W cq ci h0 a S_5) := by rw [eS_5]; exact hD
    have hok : zl_ok S_5 := by rw [eS_5]; exact hok
    refine lv_iload_n hx hb dz_L_tick_26 rfl (lv_at hl 0 rfl) ?_
    subst eS_4 eS_5
    have hE_6 : zl_tick S p1 = (zl_A (zl_passTo S p1), zl_sA (zl_passTo S p1) 0) := by simp only [zl_tick, if_neg c_2]
    exact W.iret (v := zl_A (zl_passTo S p1)) hx hb hr (fun t ht hW => ⟨⟨_, (), rfl, by show zl_A (zl_passTo S p1) = (zl_tick S p1).1; rw [hE_6], by show va_P (dC, dI) vwCl (zl_W cq ci h0 a ((zl_tick S p1).2)) t.heap; rw [ht, hE_6]; exact hP, by show va_D A (zl_W cq ci h0 a ((zl_tick S p1).2)); rw [hE_6]; exact hD⟩, hS.F ht⟩) hS.2.2 dz_L_tick_27
  · refine lv_bipush (v := -12) hx hb dz_L_tick_8 (by decide) ?_
    have hE_7 : zl_tick S p1 = ((-12), S) := by simp only [zl_tick, if_pos c_2]
    exact W.iret (v := (-12)) hx hb hr (fun t ht hW => ⟨⟨_, (), rfl, by show (-12) = (zl_tick S p1).1; rw [hE_7], by show va_P (dC, dI) vwCl (zl_W cq ci h0 a ((zl_tick S p1).2)) t.heap; rw [ht, hE_7]; exact hP, by show va_D A (zl_W cq ci h0 a ((zl_tick S p1).2)); rw [hE_7]; exact hD⟩, hS.F ht⟩) hS.2.2 dz_L_tick_10
set_option maxHeartbeats 4000000 in
set_option maxRecDepth 100000 in
theorem ct_L_take (l : Launch) (dC : Nat → ClassId) (dI : Nat → Nat → Nat) (cq ci : ClassId) (h0 : Nat) (a : zl_Ad) (S : zl_S) (hok : zl_ok S) (sz : Nat) (p1 : Int32) (p2 : Int32) : Met l yz_L_take wz_L_take (zw_room 1 0 0) (zw_U zw_ns (dC, dI) vwCl (zl_tys cq ci) [.ref h0, .int p1, .int p2] (zl_W cq ci h0 a S) sz) (va_Qi (fun (r : Int32) (_ : Unit) => r = (zl_take S p1 p2).1) (fun (_ : Unit) (t : State) => va_P (dC, dI) vwCl (zl_W cq ci h0 a ((zl_take S p1 p2).2)) t.heap ∧ va_D (va_A (zl_W cq ci h0 a S) sz) (zl_W cq ci h0 a ((zl_take S p1 p2).2))) (va_A (zl_W cq ci h0 a S) sz)) 0 0 (va_A (zl_W cq ci h0 a S) sz) := by
  refine Met.ofW (cc := cz_L_take) (maxL := 5) (ret := (some .int)) (by decide) rfl ?_
  intro p e s m args below meth c s₁ B hml hv
  obtain ⟨rfl, hsz, hP, hK, hD0, hN⟩ := hv
  have hx := B.exec
  have hb := B.bytes
  have hr := B.returns
  have hts := atoms_spec (ws := wz_L_take) B.pre
  have hz : ∀ w ∈ zw_T, w.before ([.ref h0, .int p1, .int p2] : List Value).toArray s = true := fun w h => hts w (List.mem_cons_of_mem _ h)
  have hown : s.vm.findClass RzL = some m.cls := findClass_of_methodNamed B.named
  have hlocks := B.notSynchronized
  subst hsz
  have hD := hD0.self (sz := s.heap.size)
  generalize hAe : va_A (zl_W cq ci h0 a S) s.heap.size = A at hD ⊢
  have hA : ∀ q : Nat, s.heap.size ≤ q → A q := fun q h => by rw [← hAe]; exact Or.inr h
  have hS : va_S A s.heap s.heap [] := va_S.rf
  have hl := lv_entry ([.ref h0, .int p1, .int p2]) (n := 5) (Nat.le_of_ble_eq_true rfl)
  rw [lg_entry_eq]
  generalize (lg_sl ([.ref h0, .int p1, .int p2]) ++ List.replicate (5 - (lg_sl ([.ref h0, .int p1, .int p2])).length) Slot.unset).toArray = ls at hl ⊢
  have hl : lv_has ls 5 [(0, .ref h0), (1, .int p1), (2, .int p2)] := hl
  refine lv_aload_n hx hb dz_L_take_0 rfl (lv_at hl 0 rfl) ?_
  refine lv_iload_n hx hb dz_L_take_1 rfl (lv_at hl 1 rfl) ?_
  refine va_csq (va_Run.run (va_runV (As := [.int p1]) (rest := []) ⟨hx, hb, hml, hown, hz⟩ (ct_L_boxAt l dC dI cq ci h0 a S hok p1) (cwV 1 hz (zw_gV zi_124 zi_125 zi_3 zi_33 zi_126) rfl rfl rfl (by decide +kernel) ⟨Nat.le_of_ble_eq_true rfl, Nat.le_of_ble_eq_true rfl⟩) (zw_preRV zw_ns_ok hP hK hN (ci := 2) rfl (k := 0) rfl) rfl rfl hl.1 rfl (lv_room (Nat.le_of_ble_eq_true rfl)) dz_L_take_2 ⟨Nat.le_of_ble_eq_true rfl, Nat.le_of_ble_eq_true rfl⟩)) (fun r_1 hr_1 => ?_)
  have hr_1 : r_1 = Option.map (zl_ab a) (zl_boxAt S p1) := hr_1
  obtain ⟨o_1, ho_1⟩ : ∃ o, o = zl_boxAt S p1 := ⟨_, rfl⟩
  rw [← ho_1] at hr_1
  rcases o_1 with _ | i1
  · have hi_1 : zl_boxAt S p1 = none := ho_1.symm
    subst hr_1
    refine W.eq (g2 := F0 m 5 ls [.null]) rfl ?_
    refine lv_astore_nN (lv' := [(3, .null), (0, .ref h0), (1, .int p1), (2, .int p2)]) hx hb dz_L_take_5 rfl hl (by decide) rfl (fun ls hl => ?_)
    refine lv_aload_nN hx hb dz_L_take_6 rfl (lv_at hl 0 rfl) ?_
    refine lv_ifnonnullN hx hb dz_L_take_7 ?_
    refine lv_bipush (v := -11) hx hb dz_L_take_10 (by decide) ?_
    have hE_2 : zl_take S p1 p2 = ((-11), S) := by simp only [zl_take, hi_1]
    exact W.iret (v := (-11)) hx hb hr (fun t ht hW => ⟨⟨_, (), rfl, by show (-11) = (zl_take S p1 p2).1; rw [hE_2], by show va_P (dC, dI) vwCl (zl_W cq ci h0 a ((zl_take S p1 p2).2)) t.heap; rw [ht, hE_2]; exact hP, by show va_D A (zl_W cq ci h0 a ((zl_take S p1 p2).2)); rw [hE_2]; exact hD⟩, hS.F ht⟩) hS.2.2 dz_L_take_12
  · have hi_1 : zl_boxAt S p1 = some i1 := ho_1.symm
    have hlt_1 := zl_boxAt_lt hok hi_1
    subst hr_1
    refine W.eq (g2 := F0 m 5 ls [.ref (zl_ab a i1)]) rfl ?_
    refine lv_astore_n (lv' := [(3, .ref (zl_ab a i1)), (0, .ref h0), (1, .int p1), (2, .int p2)]) hx hb dz_L_take_5 rfl hl (by decide) rfl (fun ls hl => ?_)
    refine lv_aload_n hx hb dz_L_take_6 rfl (lv_at hl 0 rfl) ?_
    refine lv_ifnonnull (tgt := 13) hx hb dz_L_take_7 (by decide) ?_
    refine lv_iload_n hx hb dz_L_take_13 rfl (lv_at hl 3 rfl) ?_
    refine lv_if_lt (tgt := 23) hx hb dz_L_take_14 (by decide) (fun c_3 => ?_) (fun c_3 => ?_)
    · refine lv_bipush (v := -12) hx hb dz_L_take_23 (by decide) ?_
      have hE_4 : zl_take S p1 p2 = ((-12), S) := by simp only [zl_take, hi_1, if_pos c_3]
      exact W.iret (v := (-12)) hx hb hr (fun t ht hW => ⟨⟨_, (), rfl, by show (-12) = (zl_take S p1 p2).1; rw [hE_4], by show va_P (dC, dI) vwCl (zl_W cq ci h0 a ((zl_take S p1 p2).2)) t.heap; rw [ht, hE_4]; exact hP, by show va_D A (zl_W cq ci h0 a ((zl_take S p1 p2).2)); rw [hE_4]; exact hD⟩, hS.F ht⟩) hS.2.2 dz_L_take_25
    · refine lv_iload_n hx hb dz_L_take_17 rfl (lv_at hl 3 rfl) ?_
      refine lv_bipush (v := 9) hx hb dz_L_take_18 (by decide) ?_
      refine lv_icmp_le (tgt := 26) hx hb dz_L_take_20 (by decide) (fun c_5 => ?_) (fun c_5 => ?_)
      · refine lv_aload_n hx hb dz_L_take_26 rfl (lv_at hl 0 rfl) ?_
        refine vp_callSi (va_Run.run (va_runVN (As := []) (rest := []) ⟨hx, hb, hml, hown, hz⟩ (ct_B_isOpenOrForced l dC dI cq ci (zl_ab a i1) (zl_B S i1)) ⟨va_cnB 0 hz (zw_g1 zi_154) rfl rfl rfl (hN _ zn_26) (hz _ zi_36) (by decide +kernel) ⟨Nat.le_of_ble_eq_true rfl, Nat.le_of_ble_eq_true rfl⟩, hz _ zi_153, hz _ zi_11⟩ (zw_preRV zw_ns_ok (show va_P (dC, dI) vwCl (zb_W (zl_ab a i1) (zl_B S i1)) s.heap from zw_P1 hP (zl_box hlt_1)) hK hN (ci := 0) rfl (k := 0) rfl) rfl rfl hl.1 rfl (lv_room (Nat.le_of_ble_eq_true rfl)) dz_L_take_27 ⟨Nat.le_of_ble_eq_true rfl, Nat.le_of_ble_eq_true rfl⟩)) (fun r_6 hr_6 => ?_)
        have hr_6 : r_6 = zb_isOpen (zl_B S i1) := hr_6
        subst hr_6
        refine lv_if_ne (tgt := 35) hx hb dz_L_take_30 (by decide) (fun c_7 => ?_) (fun c_7 => ?_)
        · refine lv_aload_n hx hb dz_L_take_35 rfl (lv_at hl 0 rfl) ?_
          refine va_getN (D := (dC, dI)) (ci := 0) (v := .int (zb_It (zl_B S i1))) (C := RzB) (T := TzB) (N := 9) hx hb hz inzB hown hK hP (i1 + 5) (zl_box hlt_1) rfl 4 (by decide) (va_Nw.use rfl (hN _ zn_5)) (fun _ h9 => h9) rfl dz_L_take_36 ?_
          refine lv_istore (lv' := [(4, .int (zb_It (zl_B S i1))), (3, .ref (zl_ab a i1)), (0, .ref h0), (1, .int p1), (2, .int p2)]) hx hb dz_L_take_39 hl (by decide) rfl (fun ls hl => ?_)
          refine lv_aload_n hx hb dz_L_take_41 rfl (lv_at hl 1 rfl) ?_
          have hFc := zw_free hS hA (show va_D A (zb_W (zl_ab a i1) (zl_B S i1)) from zw_D1 hD (zl_box hlt_1))
          refine va_callv (va_runVN (As := []) (rest := []) ⟨hx, hb, hml, hown, hz⟩ (ct_B_clear l dC dI cq ci (zl_ab a i1) (zl_B S i1) s.heap.size) ⟨va_cnB 0 hz (zw_g1 zi_195) rfl rfl rfl (hN _ zn_21) (hz _ zi_36) (by decide +kernel) ⟨Nat.le_of_ble_eq_true rfl, Nat.le_of_ble_eq_true rfl⟩, hz _ zi_194, hz _ zi_22⟩ (zw_preUV zw_ns_ok (show va_P (dC, dI) vwCl (zb_W (zl_ab a i1) (zl_B S i1)) s.heap from zw_P1 hP (zl_box hlt_1)) (show va_D A (zb_W (zl_ab a i1) (zl_B S i1)) from zw_D1 hD (zl_box hlt_1)) hK hN (ci := 0) rfl (k := 0) rfl) rfl rfl hl.1 rfl (lv_room (Nat.le_of_ble_eq_true rfl)) dz_L_take_42 ⟨Nat.le_of_ble_eq_true rfl, Nat.le_of_ble_eq_true rfl⟩) hS (fun q _ h => hFc q h) hFc (fun u_8 t_8 H locs ht hvm hw hB hz1 hk1 hS => ?_)
          have hB : va_P (dC, dI) vwCl (zb_W (zl_ab a i1) (zb_clear (zl_B S i1))) t_8.heap := hB
          rw [ht] at hB
          obtain ⟨hP, hD⟩ := zl_joinB hlt_1 hP hD hk1 hB
          obtain ⟨S_9, eS_9⟩ : ∃ z, z = zl_sB S i1 (zb_clear (zl_B S i1)) := ⟨_, rfl⟩
          rw [← eS_9] at hP hD
          have hok : zl_ok S_9 := by rw [eS_9]; exact hok
          have hlt_1 : i1 < zl_n S_9 := by rw [eS_9]; exact hlt_1
          refine lv_iload hx hb dz_L_take_45 (lv_at hl 0 rfl) ?_
          subst eS_9
          have hE_10 : zl_take S p1 p2 = (zb_It (zl_B S i1), zl_sB S i1 (zb_clear (zl_B S i1))) := by simp only [zl_take, hi_1, if_neg c_3, if_pos c_5, if_neg c_7]
          exact W.iret (v := zb_It (zl_B S i1)) hx hb hr (fun t ht hW => ⟨⟨_, (), rfl, by show zb_It (zl_B S i1) = (zl_take S p1 p2).1; rw [hE_10], by show va_P (dC, dI) vwCl (zl_W cq ci h0 a ((zl_take S p1 p2).2)) t.heap; rw [ht, hE_10]; exact hP, by show va_D A (zl_W cq ci h0 a ((zl_take S p1 p2).2)); rw [hE_10]; exact hD⟩, hS.F ht⟩) hS.2.2 dz_L_take_47
        · refine lv_iconst (v := 0) hx hb dz_L_take_33 (by decide) ?_
          have hE_11 : zl_take S p1 p2 = (0, S) := by simp only [zl_take, hi_1, if_neg c_3, if_pos c_5, if_pos c_7]
          exact W.iret (v := 0) hx hb hr (fun t ht hW => ⟨⟨_, (), rfl, by show 0 = (zl_take S p1 p2).1; rw [hE_11], by show va_P (dC, dI) vwCl (zl_W cq ci h0 a ((zl_take S p1 p2).2)) t.heap; rw [ht, hE_11]; exact hP, by show va_D A (zl_W cq ci h0 a ((zl_take S p1 p2).2)); rw [hE_11]; exact hD⟩, hS.F ht⟩) hS.2.2 dz_L_take_34
      · refine lv_bipush (v := -12) hx hb dz_L_take_23 (by decide) ?_
        have hE_12 : zl_take S p1 p2 = ((-12), S) := by simp only [zl_take, hi_1, if_neg c_3, if_neg c_5]
        exact W.iret (v := (-12)) hx hb hr (fun t ht hW => ⟨⟨_, (), rfl, by show (-12) = (zl_take S p1 p2).1; rw [hE_12], by show va_P (dC, dI) vwCl (zl_W cq ci h0 a ((zl_take S p1 p2).2)) t.heap; rw [ht, hE_12]; exact hP, by show va_D A (zl_W cq ci h0 a ((zl_take S p1 p2).2)); rw [hE_12]; exact hD⟩, hS.F ht⟩) hS.2.2 dz_L_take_25
set_option maxHeartbeats 4000000 in
set_option maxRecDepth 100000 in
theorem ct_L_item (l : Launch) (dC : Nat → ClassId) (dI : Nat → Nat → Nat) (cq ci : ClassId) (h0 : Nat) (a : zl_Ad) (S : zl_S) (hok : zl_ok S) (p1 : Int32) : Met l yz_L_item wz_L_item (zw_room 1 0 0) (zw_R zw_ns (dC, dI) vwCl (zl_tys cq ci) [.ref h0, .int p1] (zl_W cq ci h0 a S)) (vp_Si (fun r => r = zl_item S p1)) 0 0 (fun _ => False) := by
  refine Met.ofW (cc := cz_L_item) (maxL := 3) (ret := (some .int)) (by decide) rfl ?_
  intro p e s m args below meth c s₁ B hml hv
  obtain ⟨rfl, hP, hK, hN⟩ := hv
  have hx := B.exec
  have hb := B.bytes
  have hr := B.returns
  have hts := atoms_spec (ws := wz_L_item) B.pre
  have hz : ∀ w ∈ zw_T, w.before ([.ref h0, .int p1] : List Value).toArray s = true := fun w h => hts w (List.mem_cons_of_mem _ h)
  have hown : s.vm.findClass RzL = some m.cls := findClass_of_methodNamed B.named
  have hlocks := B.notSynchronized
  have hl := lv_entry ([.ref h0, .int p1]) (n := 3) (Nat.le_of_ble_eq_true rfl)
  rw [lg_entry_eq]
  generalize (lg_sl ([.ref h0, .int p1]) ++ List.replicate (3 - (lg_sl ([.ref h0, .int p1])).length) Slot.unset).toArray = ls at hl ⊢
  have hl : lv_has ls 3 [(0, .ref h0), (1, .int p1)] := hl
  refine lv_aload_n hx hb dz_L_item_0 rfl (lv_at hl 0 rfl) ?_
  refine lv_iload_n hx hb dz_L_item_1 rfl (lv_at hl 1 rfl) ?_
  refine va_csq (va_Run.run (va_runV (As := [.int p1]) (rest := []) ⟨hx, hb, hml, hown, hz⟩ (ct_L_boxAt l dC dI cq ci h0 a S hok p1) (cwV 1 hz (zw_gV zi_124 zi_125 zi_3 zi_33 zi_126) rfl rfl rfl (by decide +kernel) ⟨Nat.le_of_ble_eq_true rfl, Nat.le_of_ble_eq_true rfl⟩) (zw_preRV zw_ns_ok hP hK hN (ci := 2) rfl (k := 0) rfl) rfl rfl hl.1 rfl (lv_room (Nat.le_of_ble_eq_true rfl)) dz_L_item_2 ⟨Nat.le_of_ble_eq_true rfl, Nat.le_of_ble_eq_true rfl⟩)) (fun r_1 hr_1 => ?_)
  have hr_1 : r_1 = Option.map (zl_ab a) (zl_boxAt S p1) := hr_1
  obtain ⟨o_1, ho_1⟩ : ∃ o, o = zl_boxAt S p1 := ⟨_, rfl⟩
  rw [← ho_1] at hr_1
  rcases o_1 with _ | i1
  · have hi_1 : zl_boxAt S p1 = none := ho_1.symm
    subst hr_1
    refine W.eq (g2 := F0 m 5 ls [.null]) rfl ?_
    refine lv_astore_nN (lv' := [(2, .null), (0, .ref h0), (1, .int p1)]) hx hb dz_L_item_5 rfl hl (by decide) rfl (fun ls hl => ?_)
    refine lv_aload_nN hx hb dz_L_item_6 rfl (lv_at hl 0 rfl) ?_
    refine lv_ifnonnullN hx hb dz_L_item_7 ?_
    refine lv_bipush (v := -11) hx hb dz_L_item_10 (by decide) ?_
    exact W.iret (v := (-11)) hx hb hr (fun t ht hW => ⟨_, rfl, by simp only [zl_item, hi_1], ht⟩) (fun _ h => by cases h) dz_L_item_12
  · have hi_1 : zl_boxAt S p1 = some i1 := ho_1.symm
    have hlt_1 := zl_boxAt_lt hok hi_1
    subst hr_1
    refine W.eq (g2 := F0 m 5 ls [.ref (zl_ab a i1)]) rfl ?_
    refine lv_astore_n (lv' := [(2, .ref (zl_ab a i1)), (0, .ref h0), (1, .int p1)]) hx hb dz_L_item_5 rfl hl (by decide) rfl (fun ls hl => ?_)
    refine lv_aload_n hx hb dz_L_item_6 rfl (lv_at hl 0 rfl) ?_
    refine lv_ifnonnull (tgt := 13) hx hb dz_L_item_7 (by decide) ?_
    refine lv_aload_n hx hb dz_L_item_13 rfl (lv_at hl 0 rfl) ?_
    refine va_getN (D := (dC, dI)) (ci := 0) (v := .int (zb_La (zl_B S i1))) (C := RzB) (T := TzB) (N := 9) hx hb hz inzB hown hK hP (i1 + 5) (zl_box hlt_1) rfl 7 (by decide) (va_Nw.use rfl (hN _ zn_7)) (fun _ h9 => h9) rfl dz_L_item_14 ?_
    refine lv_if_eq (tgt := 28) hx hb dz_L_item_17 (by decide) (fun c_2 => ?_) (fun c_2 => ?_)
    · refine lv_aload_n hx hb dz_L_item_28 rfl (lv_at hl 0 rfl) ?_
      refine va_getN (D := (dC, dI)) (ci := 0) (v := .int (zb_It (zl_B S i1))) (C := RzB) (T := TzB) (N := 9) hx hb hz inzB hown hK hP (i1 + 5) (zl_box hlt_1) rfl 4 (by decide) (va_Nw.use rfl (hN _ zn_5)) (fun _ h9 => h9) rfl dz_L_item_29 ?_
      exact W.iret (v := zb_It (zl_B S i1)) hx hb hr (fun t ht hW => ⟨_, rfl, by simp only [zl_item, hi_1, if_pos c_2], ht⟩) (fun _ h => by cases h) dz_L_item_32
    · refine lv_aload_n hx hb dz_L_item_20 rfl (lv_at hl 0 rfl) ?_
      refine va_getN (D := (dC, dI)) (ci := 0) (v := .int (zb_It (zl_B S i1))) (C := RzB) (T := TzB) (N := 9) hx hb hz inzB hown hK hP (i1 + 5) (zl_box hlt_1) rfl 4 (by decide) (va_Nw.use rfl (hN _ zn_5)) (fun _ h9 => h9) rfl dz_L_item_21 ?_
      refine lv_ineg hx hb dz_L_item_24 ?_
      refine lv_goto (tgt := 32) hx hb dz_L_item_25 (by decide) ?_
      exact W.iret (v := -(zb_It (zl_B S i1))) hx hb hr (fun t ht hW => ⟨_, rfl, by simp only [zl_item, hi_1, if_neg c_2], ht⟩) (fun _ h => by cases h) dz_L_item_32
set_option maxHeartbeats 4000000 in
set_option maxRecDepth 100000 in
theorem ct_L_freed (l : Launch) (dC : Nat → ClassId) (dI : Nat → Nat → Nat) (cq ci : ClassId) (h0 : Nat) (a : zl_Ad) (S : zl_S) (hok : zl_ok S) (p1 : Int32) : Met l yz_L_freed wz_L_freed (zw_room 0 0 0) (zw_R zw_ns (dC, dI) vwCl (zl_tys cq ci) [.ref h0, .int p1] (zl_W cq ci h0 a S)) (vp_Si (fun r => r = zl_freed S p1)) 0 0 (fun _ => False) := by
  refine Met.ofW (cc := cz_L_freed) (maxL := 2) (ret := (some .int)) (by decide) rfl ?_
  intro p e s m args below meth c s₁ B hml hv
  obtain ⟨rfl, hP, hK, hN⟩ := hv
  have hx := B.exec
  have hb := B.bytes
  have hr := B.returns
  have hts := atoms_spec (ws := wz_L_freed) B.pre
  have hz : ∀ w ∈ zw_T, w.before ([.ref h0, .int p1] : List Value).toArray s = true := fun w h => hts w (List.mem_cons_of_mem _ h)
  have hown : s.vm.findClass RzL = some m.cls := findClass_of_methodNamed B.named
  have hlocks := B.notSynchronized
  have hl := lv_entry ([.ref h0, .int p1]) (n := 2) (Nat.le_of_ble_eq_true rfl)
  rw [lg_entry_eq]
  generalize (lg_sl ([.ref h0, .int p1]) ++ List.replicate (2 - (lg_sl ([.ref h0, .int p1])).length) Slot.unset).toArray = ls at hl ⊢
  have hl : lv_has ls 2 [(0, .ref h0), (1, .int p1)] := hl
  refine lv_iload_n hx hb dz_L_freed_0 rfl (lv_at hl 1 rfl) ?_
  refine lv_if_lt (tgt := 27) hx hb dz_L_freed_1 (by decide) (fun c_1 => ?_) (fun c_1 => ?_)
  · refine lv_iconst (v := 0) hx hb dz_L_freed_27 (by decide) ?_
    exact W.iret (v := 0) hx hb hr (fun t ht hW => ⟨_, rfl, by simp only [zl_freed, if_pos c_1], ht⟩) (fun _ h => by cases h) dz_L_freed_28
  · refine lv_iload_n hx hb dz_L_freed_4 rfl (lv_at hl 1 rfl) ?_
    refine lv_aload_n hx hb dz_L_freed_5 rfl (lv_at hl 0 rfl) ?_
    refine va_get (D := (dC, dI)) (ci := 2) (v := .int (nI (zl_k S))) (C := RzL) (T := TzL) (N := 9) hx hb hz inzL hown hK hP 0 rfl rfl 4 (by decide) (hz _ zi_61) (fun _ h9 => h9) rfl dz_L_freed_6 ?_
    refine lv_icmp_ge (tgt := 27) hx hb dz_L_freed_9 (by decide) (fun c_2 => ?_) (fun c_2 => ?_)
    · refine lv_iconst (v := 0) hx hb dz_L_freed_27 (by decide) ?_
      exact W.iret (v := 0) hx hb hr (fun t ht hW => ⟨_, rfl, by simp only [zl_freed, if_neg c_1, if_pos c_2], ht⟩) (fun _ h => by cases h) dz_L_freed_28
    · refine lv_iload_n hx hb dz_L_freed_12 rfl (lv_at hl 1 rfl) ?_
      refine lv_bipush (v := 100) hx hb dz_L_freed_13 (by decide) ?_
      refine lv_icmp_ge (tgt := 27) hx hb dz_L_freed_15 (by decide) (fun c_3 => ?_) (fun c_3 => ?_)
      · refine lv_iconst (v := 0) hx hb dz_L_freed_27 (by decide) ?_
        exact W.iret (v := 0) hx hb hr (fun t ht hW => ⟨_, rfl, by simp only [zl_freed, if_neg c_1, if_neg c_2, if_pos c_3], ht⟩) (fun _ h => by cases h) dz_L_freed_28
      · refine lv_aload_n hx hb dz_L_freed_18 rfl (lv_at hl 0 rfl) ?_
        refine va_get (D := (dC, dI)) (ci := 2) (v := .ref a.2.2.2.1) (C := RzL) (T := TzL) (N := 9) hx hb hz inzL hown hK hP 0 rfl rfl 3 (by decide) (hz _ zi_60) (fun _ h9 => h9) rfl dz_L_freed_19 ?_
        refine lv_iload_n hx hb dz_L_freed_22 rfl (lv_at hl 1 rfl) ?_
        have hin_4 : vp_in p1 100 := zl_in100 c_1 c_3
        refine va_iald hx hb hK hP 4 1 rfl rfl hin_4 dz_L_freed_23 ?_
        refine lv_goto (tgt := 28) hx hb dz_L_freed_24 (by decide) ?_
        exact W.iret (v := (zl_F S) p1.toNatClampNeg) hx hb hr (fun t ht hW => ⟨_, rfl, by simp only [zl_freed, if_neg c_1, if_neg c_2, if_neg c_3], ht⟩) (fun _ h => by cases h) dz_L_freed_28
end
section
set_option maxHeartbeats 4000000 in
set_option maxRecDepth 100000 in
theorem ct_L_init (l : Launch) (dC : Nat → ClassId) (dI : Nat → Nat → Nat) (h0 : Nat) (sz : Nat) : Met l yz_L_init wz_L_init (zw_room 2 4 362) (zw_U zw_ns (dC, dI) vwCl [] [.ref h0] [(h0, .inr (2, [.null, .int 0, .null, .null, .int 0, .long 0, .int 0, .int 0, .long 0]))] sz) (va_Qv (fun _ : zl_Ad × ClassId × ClassId => True) (fun (u : zl_Ad × ClassId × ClassId) (t : State) => va_P (dC, dI) vwCl (zl_W u.2.1 u.2.2 h0 u.1 zl_new) t.heap ∧ va_K (dC, dI) vwCl (zl_tys u.2.1 u.2.2) t ∧ va_D (va_A [(h0, .inr (2, [.null, .int 0, .null, .null, .int 0, .long 0, .int 0, .int 0, .long 0]))] sz) (zl_W u.2.1 u.2.2 h0 u.1 zl_new)) (va_A [(h0, .inr (2, [.null, .int 0, .null, .null, .int 0, .long 0, .int 0, .int 0, .long 0]))] sz)) 4 362 (va_A [(h0, .inr (2, [.null, .int 0, .null, .null, .int 0, .long 0, .int 0, .int 0, .long 0]))] sz) := by
  refine Met.ofW (cc := cz_L_init) (maxL := 1) (ret := none) (by decide) rfl ?_
  intro p e s m args below meth c s₁ B hml hv
  obtain ⟨rfl, hsz, hP, hK, hD0, hN⟩ := hv
  have hx := B.exec
  have hb := B.bytes
  have hr := B.returns
  have hts := atoms_spec (ws := wz_L_init) B.pre
  have hown : s.vm.findClass RzL = some m.cls := findClass_of_methodNamed B.named
  have hlocks := B.notSynchronized
  have hz : ∀ w ∈ zw_T, w.before ([.ref h0] : List Value).toArray s = true := fun w h => hts w (List.mem_cons_of_mem _ h)
  have hin : meth.name = "<init>" := (name_of_methodNamed B.named B.method).1
  subst hsz
  have hD := hD0.self (sz := s.heap.size)
  generalize hAe : va_A [(h0, .inr (2, [.null, .int 0, .null, .null, .int 0, .long 0, .int 0, .int 0, .long 0]))] s.heap.size = A at hD ⊢
  have hA : ∀ q : Nat, s.heap.size ≤ q → A q := fun q h => by rw [← hAe]; exact Or.inr h
  have hS : va_S A s.heap s.heap [] := va_S.rf
  have hl := lv_entry ([.ref h0]) (n := 1) (Nat.le_of_ble_eq_true rfl)
  rw [lg_entry_eq]
  generalize (lg_sl ([.ref h0]) ++ List.replicate (1 - (lg_sl ([.ref h0])).length) Slot.unset).toArray = ls at hl ⊢
  have hl : lv_has ls 1 [(0, .ref h0)] := hl
  refine lv_aload_n hx hb dz_L_init_0 rfl (lv_at hl 0 rfl) ?_
  refine W.objInit hx hb hown (hz _ zi_43) (hz _ zi_44) (hz _ zi_45) rfl (by rw [hml]; exact hl.1) rfl dz_L_init_1 (Nat.le_of_ble_eq_true rfl) (Nat.le_of_ble_eq_true rfl) ?_
  refine W.eq (g2 := F0 m 4 ls []) rfl ?_
  refine lv_aload_n hx hb dz_L_init_4 rfl (lv_at hl 0 rfl) ?_
  refine lv_bipush (v := 60) hx hb dz_L_init_5 (by decide) ?_
  refine va_newq (C := "LockerRows$Box") (N' := 60) hx hb hown (hz _ zi_46) (hN _ zn_0) hK hP hD hS hA (by decide) rfl (by decide) (Nat.le_of_ble_eq_true rfl) (Nat.le_of_ble_eq_true rfl) dz_L_init_7 (fun q1 cq H hK hP hD hS => ?_)
  have hK : va_K (dC, dI) vwCl [(cq, .object "LockerRows$Box")] s := hK
  have hP : va_P (dC, dI) vwCl [(h0, .inr (2, [.null, .int 0, .null, .null, .int 0, .long 0, .int 0, .int 0, .long 0])), (q1, .inl (cq, 60, .inr (.inr (.inr (.inr (fun _ => none))))))] H := hP
  have hD : va_D A [(h0, .inr (2, [.null, .int 0, .null, .null, .int 0, .long 0, .int 0, .int 0, .long 0])), (q1, .inl (cq, 60, .inr (.inr (.inr (.inr (fun _ => none))))))] := hD
  refine W.widen (k := 1) (n := 60) (by omega) (by omega) ?_
  refine va_putF (D := (dC, dI)) (ci := 2) (v := .ref q1) (ty := .array (.object "LockerRows$Box")) (C := RzL) (T := TzL) (N := 9) hx hb hz inzL tyzL tyzL_ok nmzL hown hK hP hD hS 0 rfl rfl 0 (by decide) (hz _ zi_57) (fun _ h9 => h9) rfl hin rfl (by decide +kernel) rfl rfl (Nat.le_of_ble_eq_true rfl) dz_L_init_10 (fun H locs hP hD hS => ?_)
  have hP : va_P (dC, dI) vwCl [(h0, .inr (2, [.ref q1, .int 0, .null, .null, .int 0, .long 0, .int 0, .int 0, .long 0])), (q1, .inl (cq, 60, .inr (.inr (.inr (.inr (fun _ => none))))))] H := hP
  have hD : va_D A [(h0, .inr (2, [.ref q1, .int 0, .null, .null, .int 0, .long 0, .int 0, .int 0, .long 0])), (q1, .inl (cq, 60, .inr (.inr (.inr (.inr (fun _ => none))))))] := hD
  refine lv_aload_n hx hb dz_L_init_13 rfl (lv_at hl 0 rfl) ?_
  refine lv_iconst (v := nI 0) hx hb dz_L_init_14 (by decide) ?_
  refine va_put (D := (dC, dI)) (ci := 2) (v := .int (nI 0)) (ty := .int) (C := RzL) (T := TzL) (N := 9) hx hb hz inzL tyzL tyzL_ok nmzL hown hK hP hD hS 0 rfl rfl 1 (by decide) (hz _ zi_58) (fun _ h9 => h9) rfl (by decide +kernel) rfl rfl (Nat.le_of_ble_eq_true rfl) dz_L_init_15 (fun H locs hP hD hS => ?_)
  have hP : va_P (dC, dI) vwCl [(h0, .inr (2, [.ref q1, .int (nI 0), .null, .null, .int 0, .long 0, .int 0, .int 0, .long 0])), (q1, .inl (cq, 60, .inr (.inr (.inr (.inr (fun _ => none))))))] H := hP
  have hD : va_D A [(h0, .inr (2, [.ref q1, .int (nI 0), .null, .null, .int 0, .long 0, .int 0, .int 0, .long 0])), (q1, .inl (cq, 60, .inr (.inr (.inr (.inr (fun _ => none))))))] := hD
  refine lv_aload_n hx hb dz_L_init_18 rfl (lv_at hl 0 rfl) ?_
  refine va_new (ci := 1) (fs := [.null, .int 0]) (C := RzT) (T := TzT) (N := 2) hx hb hz inzT tyzT tyzT_ok hown (hz _ zi_47) (hz _ zi_48) (hz _ zi_34) hK hP hD hS hA rfl (fun j hj => by rcases (show j = 0 ∨ j = 1 by omega) with rfl | rfl <;> rfl) (Nat.le_of_ble_eq_true rfl) (Nat.le_of_ble_eq_true rfl) dz_L_init_19 (fun q2 H hP hD hS => ?_)
  have hP : va_P (dC, dI) vwCl [(h0, .inr (2, [.ref q1, .int (nI 0), .null, .null, .int 0, .long 0, .int 0, .int 0, .long 0])), (q1, .inl (cq, 60, .inr (.inr (.inr (.inr (fun _ => none)))))), (q2, .inr (1, [.null, .int 0]))] H := hP
  have hD : va_D A [(h0, .inr (2, [.ref q1, .int (nI 0), .null, .null, .int 0, .long 0, .int 0, .int 0, .long 0])), (q1, .inl (cq, 60, .inr (.inr (.inr (.inr (fun _ => none)))))), (q2, .inr (1, [.null, .int 0]))] := hD
  refine W.widen (k := 2) (n := 62) (by omega) (by omega) ?_
  refine lv_dup hx hb dz_L_init_22 rfl ?_
  have hPc := hP.sub (ws' := [(q2, .inr (1, [.null, .int 0]))]) [2] rfl
  have hDc := hD.sub (ws' := [(q2, .inr (1, [.null, .int 0]))]) [2] (by decide) rfl
  have hKc := hK.sub (tys' := []) [] rfl
  have hFc := va_free (wc := [(q2, .inr (1, [.null, .int 0]))]) hD hS hA [2] rfl
  refine va_callv (va_runIN (As := []) (rest := [.ref q2, .ref h0]) ⟨hx, hb, hml, hown, hz⟩ (ct_T_init l dC dI q2 H.size 0) ⟨va_cnB 0 hz (zw_g1 zi_50) rfl rfl rfl (hN _ zn_1) (hz _ zi_34) (by decide +kernel) ⟨Nat.le_of_ble_eq_true rfl, Nat.le_of_ble_eq_true rfl⟩, rfl, hz _ zi_49⟩ (zw_preU zw_ns_ok hPc hDc hKc hN) rfl rfl hl.1 rfl (lv_room (Nat.le_of_ble_eq_true rfl)) dz_L_init_23 ⟨Nat.le_of_ble_eq_true rfl, Nat.le_of_ble_eq_true rfl⟩) hS (fun q _ h => hFc q h) hFc (fun u t H1 locs ht hvm hw hB hz1 hk1 hS => ?_)
  obtain ⟨q3, ci⟩ := u
  obtain ⟨hP1, hK1, hD1⟩ := hB
  rw [ht] at hP1
  have hK1 := va_K.moved hvm.symm hK1
  obtain ⟨hP, hD⟩ := va_join (wr := [(h0, .inr (2, [.ref q1, .int (nI 0), .null, .null, .int 0, .long 0, .int 0, .int 0, .long 0])), (q1, .inl (cq, 60, .inr (.inr (.inr (.inr (fun _ => none))))))]) (w1 := (zt_W ci q2 q3 (fun _ => 0, 0))) hP hD [2] [0, 1] rfl rfl (by decide) (by decide) hk1 hFc hP1 hD1
  have hK : va_K (dC, dI) vwCl [(cq, .object "LockerRows$Box"), (ci, .int)] s := hK.app hK1
  generalize H1 = H at hP hS ⊢
  have hP : va_P (dC, dI) vwCl [(h0, .inr (2, [.ref q1, .int (nI 0), .null, .null, .int 0, .long 0, .int 0, .int 0, .long 0])), (q1, .inl (cq, 60, .inr (.inr (.inr (.inr (fun _ => none)))))), (q2, .inr (1, [.ref q3, .int (nI 0)])), (q3, .inl (ci, 200, .inl (fun _ => 0)))] H := hP
  have hD : va_D A [(h0, .inr (2, [.ref q1, .int (nI 0), .null, .null, .int 0, .long 0, .int 0, .int 0, .long 0])), (q1, .inl (cq, 60, .inr (.inr (.inr (.inr (fun _ => none)))))), (q2, .inr (1, [.ref q3, .int (nI 0)])), (q3, .inl (ci, 200, .inl (fun _ => 0)))] := hD
  refine W.widen (k := 3) (n := 262) (by omega) (by omega) ?_
  refine va_putF (D := (dC, dI)) (ci := 2) (v := .ref q2) (ty := .object "LockerRows$Tape") (C := RzL) (T := TzL) (N := 9) hx hb hz inzL tyzL tyzL_ok nmzL hown hK hP hD hS 0 rfl rfl 2 (by decide) (hz _ zi_59) (fun _ h9 => h9) rfl hin rfl (by decide +kernel) rfl rfl (Nat.le_of_ble_eq_true rfl) dz_L_init_26 (fun H locs hP hD hS => ?_)
  have hP : va_P (dC, dI) vwCl [(h0, .inr (2, [.ref q1, .int (nI 0), .ref q2, .null, .int 0, .long 0, .int 0, .int 0, .long 0])), (q1, .inl (cq, 60, .inr (.inr (.inr (.inr (fun _ => none)))))), (q2, .inr (1, [.ref q3, .int (nI 0)])), (q3, .inl (ci, 200, .inl (fun _ => 0)))] H := hP
  have hD : va_D A [(h0, .inr (2, [.ref q1, .int (nI 0), .ref q2, .null, .int 0, .long 0, .int 0, .int 0, .long 0])), (q1, .inl (cq, 60, .inr (.inr (.inr (.inr (fun _ => none)))))), (q2, .inr (1, [.ref q3, .int (nI 0)])), (q3, .inl (ci, 200, .inl (fun _ => 0)))] := hD
  refine lv_aload_n hx hb dz_L_init_29 rfl (lv_at hl 0 rfl) ?_
  refine lv_bipush (v := 100) hx hb dz_L_init_30 (by decide) ?_
  refine va_newa (atype := .int) (a0 := (100, .inl (fun _ => 0))) (ty := .int) hx hb (hz _ zi_56) rfl hK hP hD hS hA (fun cA => rfl) (by decide) rfl (by decide) (Nat.le_of_ble_eq_true rfl) (Nat.le_of_ble_eq_true rfl) dz_L_init_32 (fun q4 cA H hK hP hD hS => ?_)
  obtain rfl := zw_sameI (i := 1) (j := 2) hK rfl rfl
  have hK : va_K (dC, dI) vwCl (zl_tys cq ci) s := hK.sub [0, 1] rfl
  have hP : va_P (dC, dI) vwCl [(h0, .inr (2, [.ref q1, .int (nI 0), .ref q2, .null, .int 0, .long 0, .int 0, .int 0, .long 0])), (q1, .inl (cq, 60, .inr (.inr (.inr (.inr (fun _ => none)))))), (q2, .inr (1, [.ref q3, .int (nI 0)])), (q3, .inl (ci, 200, .inl (fun _ => 0))), (q4, .inl (ci, 100, .inl (fun _ => 0)))] H := hP
  have hD : va_D A [(h0, .inr (2, [.ref q1, .int (nI 0), .ref q2, .null, .int 0, .long 0, .int 0, .int 0, .long 0])), (q1, .inl (cq, 60, .inr (.inr (.inr (.inr (fun _ => none)))))), (q2, .inr (1, [.ref q3, .int (nI 0)])), (q3, .inl (ci, 200, .inl (fun _ => 0))), (q4, .inl (ci, 100, .inl (fun _ => 0)))] := hD
  refine W.widen (k := 4) (n := 362) (by omega) (by omega) ?_
  refine va_putF (D := (dC, dI)) (ci := 2) (v := .ref q4) (ty := .array .int) (C := RzL) (T := TzL) (N := 9) hx hb hz inzL tyzL tyzL_ok nmzL hown hK hP hD hS 0 rfl rfl 3 (by decide) (hz _ zi_60) (fun _ h9 => h9) rfl hin rfl (by decide +kernel) rfl rfl (Nat.le_of_ble_eq_true rfl) dz_L_init_34 (fun H locs hP hD hS => ?_)
  have hP : va_P (dC, dI) vwCl [(h0, .inr (2, [.ref q1, .int (nI 0), .ref q2, .ref q4, .int 0, .long 0, .int 0, .int 0, .long 0])), (q1, .inl (cq, 60, .inr (.inr (.inr (.inr (fun _ => none)))))), (q2, .inr (1, [.ref q3, .int (nI 0)])), (q3, .inl (ci, 200, .inl (fun _ => 0))), (q4, .inl (ci, 100, .inl (fun _ => 0)))] H := hP
  have hD : va_D A [(h0, .inr (2, [.ref q1, .int (nI 0), .ref q2, .ref q4, .int 0, .long 0, .int 0, .int 0, .long 0])), (q1, .inl (cq, 60, .inr (.inr (.inr (.inr (fun _ => none)))))), (q2, .inr (1, [.ref q3, .int (nI 0)])), (q3, .inl (ci, 200, .inl (fun _ => 0))), (q4, .inl (ci, 100, .inl (fun _ => 0)))] := hD
  refine lv_aload_n hx hb dz_L_init_37 rfl (lv_at hl 0 rfl) ?_
  refine lv_iconst (v := nI 0) hx hb dz_L_init_38 (by decide) ?_
  refine va_put (D := (dC, dI)) (ci := 2) (v := .int (nI 0)) (ty := .int) (C := RzL) (T := TzL) (N := 9) hx hb hz inzL tyzL tyzL_ok nmzL hown hK hP hD hS 0 rfl rfl 4 (by decide) (hz _ zi_61) (fun _ h9 => h9) rfl (by decide +kernel) rfl rfl (Nat.le_of_ble_eq_true rfl) dz_L_init_39 (fun H locs hP hD hS => ?_)
  have hP : va_P (dC, dI) vwCl [(h0, .inr (2, [.ref q1, .int (nI 0), .ref q2, .ref q4, .int (nI 0), .long 0, .int 0, .int 0, .long 0])), (q1, .inl (cq, 60, .inr (.inr (.inr (.inr (fun _ => none)))))), (q2, .inr (1, [.ref q3, .int (nI 0)])), (q3, .inl (ci, 200, .inl (fun _ => 0))), (q4, .inl (ci, 100, .inl (fun _ => 0)))] H := hP
  have hD : va_D A [(h0, .inr (2, [.ref q1, .int (nI 0), .ref q2, .ref q4, .int (nI 0), .long 0, .int 0, .int 0, .long 0])), (q1, .inl (cq, 60, .inr (.inr (.inr (.inr (fun _ => none)))))), (q2, .inr (1, [.ref q3, .int (nI 0)])), (q3, .inl (ci, 200, .inl (fun _ => 0))), (q4, .inl (ci, 100, .inl (fun _ => 0)))] := hD
  refine lv_aload_n hx hb dz_L_init_42 rfl (lv_at hl 0 rfl) ?_
  refine lv_lconst (v := 0) hx hb dz_L_init_43 (by decide) ?_
  refine va_put (D := (dC, dI)) (ci := 2) (v := .long 0) (ty := .long) (C := RzL) (T := TzL) (N := 9) hx hb hz inzL tyzL tyzL_ok nmzL hown hK hP hD hS 0 rfl rfl 5 (by decide) (hz _ zi_62) (fun _ h9 => h9) rfl (by decide +kernel) rfl rfl (Nat.le_of_ble_eq_true rfl) dz_L_init_44 (fun H locs hP hD hS => ?_)
  have hP : va_P (dC, dI) vwCl [(h0, .inr (2, [.ref q1, .int (nI 0), .ref q2, .ref q4, .int (nI 0), .long 0, .int 0, .int 0, .long 0])), (q1, .inl (cq, 60, .inr (.inr (.inr (.inr (fun _ => none)))))), (q2, .inr (1, [.ref q3, .int (nI 0)])), (q3, .inl (ci, 200, .inl (fun _ => 0))), (q4, .inl (ci, 100, .inl (fun _ => 0)))] H := hP
  have hD : va_D A [(h0, .inr (2, [.ref q1, .int (nI 0), .ref q2, .ref q4, .int (nI 0), .long 0, .int 0, .int 0, .long 0])), (q1, .inl (cq, 60, .inr (.inr (.inr (.inr (fun _ => none)))))), (q2, .inr (1, [.ref q3, .int (nI 0)])), (q3, .inl (ci, 200, .inl (fun _ => 0))), (q4, .inl (ci, 100, .inl (fun _ => 0)))] := hD
  refine lv_aload_n hx hb dz_L_init_47 rfl (lv_at hl 0 rfl) ?_
  refine lv_iconst (v := 0) hx hb dz_L_init_48 (by decide) ?_
  refine va_put (D := (dC, dI)) (ci := 2) (v := .int 0) (ty := .int) (C := RzL) (T := TzL) (N := 9) hx hb hz inzL tyzL tyzL_ok nmzL hown hK hP hD hS 0 rfl rfl 6 (by decide) (hz _ zi_63) (fun _ h9 => h9) rfl (by decide +kernel) rfl rfl (Nat.le_of_ble_eq_true rfl) dz_L_init_49 (fun H locs hP hD hS => ?_)
  have hP : va_P (dC, dI) vwCl [(h0, .inr (2, [.ref q1, .int (nI 0), .ref q2, .ref q4, .int (nI 0), .long 0, .int 0, .int 0, .long 0])), (q1, .inl (cq, 60, .inr (.inr (.inr (.inr (fun _ => none)))))), (q2, .inr (1, [.ref q3, .int (nI 0)])), (q3, .inl (ci, 200, .inl (fun _ => 0))), (q4, .inl (ci, 100, .inl (fun _ => 0)))] H := hP
  have hD : va_D A [(h0, .inr (2, [.ref q1, .int (nI 0), .ref q2, .ref q4, .int (nI 0), .long 0, .int 0, .int 0, .long 0])), (q1, .inl (cq, 60, .inr (.inr (.inr (.inr (fun _ => none)))))), (q2, .inr (1, [.ref q3, .int (nI 0)])), (q3, .inl (ci, 200, .inl (fun _ => 0))), (q4, .inl (ci, 100, .inl (fun _ => 0)))] := hD
  refine lv_aload_n hx hb dz_L_init_52 rfl (lv_at hl 0 rfl) ?_
  refine lv_iconst (v := 0) hx hb dz_L_init_53 (by decide) ?_
  refine va_put (D := (dC, dI)) (ci := 2) (v := .int 0) (ty := .int) (C := RzL) (T := TzL) (N := 9) hx hb hz inzL tyzL tyzL_ok nmzL hown hK hP hD hS 0 rfl rfl 7 (by decide) (hz _ zi_64) (fun _ h9 => h9) rfl (by decide +kernel) rfl rfl (Nat.le_of_ble_eq_true rfl) dz_L_init_54 (fun H locs hP hD hS => ?_)
  have hP : va_P (dC, dI) vwCl [(h0, .inr (2, [.ref q1, .int (nI 0), .ref q2, .ref q4, .int (nI 0), .long 0, .int 0, .int 0, .long 0])), (q1, .inl (cq, 60, .inr (.inr (.inr (.inr (fun _ => none)))))), (q2, .inr (1, [.ref q3, .int (nI 0)])), (q3, .inl (ci, 200, .inl (fun _ => 0))), (q4, .inl (ci, 100, .inl (fun _ => 0)))] H := hP
  have hD : va_D A [(h0, .inr (2, [.ref q1, .int (nI 0), .ref q2, .ref q4, .int (nI 0), .long 0, .int 0, .int 0, .long 0])), (q1, .inl (cq, 60, .inr (.inr (.inr (.inr (fun _ => none)))))), (q2, .inr (1, [.ref q3, .int (nI 0)])), (q3, .inl (ci, 200, .inl (fun _ => 0))), (q4, .inl (ci, 100, .inl (fun _ => 0)))] := hD
  refine lv_aload_n hx hb dz_L_init_57 rfl (lv_at hl 0 rfl) ?_
  refine lv_lconst (v := 0) hx hb dz_L_init_58 (by decide) ?_
  refine va_put (D := (dC, dI)) (ci := 2) (v := .long 0) (ty := .long) (C := RzL) (T := TzL) (N := 9) hx hb hz inzL tyzL tyzL_ok nmzL hown hK hP hD hS 0 rfl rfl 8 (by decide) (hz _ zi_65) (fun _ h9 => h9) rfl (by decide +kernel) rfl rfl (Nat.le_of_ble_eq_true rfl) dz_L_init_59 (fun H locs hP hD hS => ?_)
  have hP : va_P (dC, dI) vwCl [(h0, .inr (2, [.ref q1, .int (nI 0), .ref q2, .ref q4, .int (nI 0), .long 0, .int 0, .int 0, .long 0])), (q1, .inl (cq, 60, .inr (.inr (.inr (.inr (fun _ => none)))))), (q2, .inr (1, [.ref q3, .int (nI 0)])), (q3, .inl (ci, 200, .inl (fun _ => 0))), (q4, .inl (ci, 100, .inl (fun _ => 0)))] H := hP
  have hD : va_D A [(h0, .inr (2, [.ref q1, .int (nI 0), .ref q2, .ref q4, .int (nI 0), .long 0, .int 0, .int 0, .long 0])), (q1, .inl (cq, 60, .inr (.inr (.inr (.inr (fun _ => none)))))), (q2, .inr (1, [.ref q3, .int (nI 0)])), (q3, .inl (ci, 200, .inl (fun _ => 0))), (q4, .inl (ci, 100, .inl (fun _ => 0)))] := hD
  rw [zl_refs0 (q1, q2, q3, q4, fun _ => 0)] at hP hD
  have hP : va_P (dC, dI) vwCl (zl_W cq ci h0 (q1, q2, q3, q4, fun _ => 0) zl_new) H := hP
  have hD : va_D A (zl_W cq ci h0 (q1, q2, q3, q4, fun _ => 0) zl_new) := hD
  exact W.vret hx hb hr (fun t ht hW => ⟨⟨((q1, q2, q3, q4, fun _ => 0), cq, ci), rfl, trivial, by show va_P (dC, dI) vwCl (zl_W cq ci h0 (q1, q2, q3, q4, fun _ => 0) zl_new) t.heap; rw [ht]; exact hP, va_K.moved hW.alike hK, hD⟩, hS.F ht⟩) hS.2.2 dz_L_init_62
set_option maxHeartbeats 4000000 in
set_option maxRecDepth 100000 in
theorem ct_L_box (l : Launch) (dC : Nat → ClassId) (dI : Nat → Nat → Nat) (cq ci : ClassId) (h0 : Nat) (a : zl_Ad) (S : zl_S) (hok : zl_ok S) (sz : Nat) (p1 : Int32) : Met l yz_L_box wz_L_box (zw_room 2 1 9) (zw_U zw_ns (dC, dI) vwCl (zl_tys cq ci) [.ref h0, .int p1] (zl_W cq ci h0 a S) sz) (va_Qi (fun (r : Int32) (_ : zl_Ad) => r = (zl_addbox S p1).1) (fun (u : zl_Ad) (t : State) => va_P (dC, dI) vwCl (zl_W cq ci h0 u (zl_addbox S p1).2) t.heap ∧ va_D (va_A (zl_W cq ci h0 a S) sz) (zl_W cq ci h0 u (zl_addbox S p1).2)) (va_A (zl_W cq ci h0 a S) sz)) 1 9 (va_A (zl_W cq ci h0 a S) sz) := by
  refine Met.ofW (cc := cz_L_box) (maxL := 2) (ret := (some .int)) (by decide) rfl ?_
  intro p e s m args below meth c s₁ B hml hv
  obtain ⟨rfl, hsz, hP, hK, hD0, hN⟩ := hv
  have hx := B.exec
  have hb := B.bytes
  have hr := B.returns
  have hts := atoms_spec (ws := wz_L_box) B.pre
  have hown : s.vm.findClass RzL = some m.cls := findClass_of_methodNamed B.named
  have hlocks := B.notSynchronized
  have hz : ∀ w ∈ zw_T, w.before ([.ref h0, .int p1] : List Value).toArray s = true := fun w h => hts w (List.mem_cons_of_mem _ h)
  subst hsz
  have hD := hD0.self (sz := s.heap.size)
  generalize hAe : va_A (zl_W cq ci h0 a S) s.heap.size = A at hD ⊢
  have hA : ∀ q : Nat, s.heap.size ≤ q → A q := fun q h => by rw [← hAe]; exact Or.inr h
  have hS : va_S A s.heap s.heap [] := va_S.rf
  have hl := lv_entry ([.ref h0, .int p1]) (n := 2) (Nat.le_of_ble_eq_true rfl)
  rw [lg_entry_eq]
  generalize (lg_sl ([.ref h0, .int p1]) ++ List.replicate (2 - (lg_sl ([.ref h0, .int p1])).length) Slot.unset).toArray = ls at hl ⊢
  have hl : lv_has ls 2 [(0, .ref h0), (1, .int p1)] := hl
  refine lv_iload_n hx hb dz_L_box_0 rfl (lv_at hl 1 rfl) ?_
  refine vp_callSi (va_Run.run (va_runS (As := [.int p1]) (rest := []) ⟨hx, hb, hml, hown, hz⟩ (ct_L_isSize l dC dI cq ci p1) (cwS 1 hz (zw_gS zi_79 zi_80 zi_33 zi_81) rfl rfl rfl (by decide +kernel) ⟨Nat.le_of_ble_eq_true rfl, Nat.le_of_ble_eq_true rfl⟩) (zw_preR zw_ns_ok (ws := []) (fun k q h => by simp at h) hK hN) rfl rfl hl.1 rfl (lv_room (Nat.le_of_ble_eq_true rfl)) dz_L_box_1 ⟨Nat.le_of_ble_eq_true rfl, Nat.le_of_ble_eq_true rfl⟩)) (fun r_1 hr_1 => ?_)
  have hr_1 : r_1 = zl_isSize p1 := hr_1
  subst hr_1
  refine lv_if_ne (tgt := 10) hx hb dz_L_box_4 (by decide) (fun c_2 => ?_) (fun c_2 => ?_)
  · refine lv_aload_n hx hb dz_L_box_10 rfl (lv_at hl 0 rfl) ?_
    refine va_get (D := (dC, dI)) (ci := 2) (v := .int (nI (zl_n S))) (C := RzL) (T := TzL) (N := 9) hx hb hz inzL hown hK hP 0 rfl rfl 1 (by decide) (hz _ zi_58) (fun _ h9 => h9) rfl dz_L_box_11 ?_
    refine lv_bipush (v := 60) hx hb dz_L_box_14 (by decide) ?_
    refine lv_icmp_lt (tgt := 22) hx hb dz_L_box_16 (by decide) (fun c_3 => ?_) (fun c_3 => ?_)
    · refine lv_aload_n hx hb dz_L_box_22 rfl (lv_at hl 0 rfl) ?_
      refine va_get (D := (dC, dI)) (ci := 2) (v := .ref a.1) (C := RzL) (T := TzL) (N := 9) hx hb hz inzL hown hK hP 0 rfl rfl 0 (by decide) (hz _ zi_57) (fun _ h9 => h9) rfl dz_L_box_23 ?_
      refine lv_aload_n hx hb dz_L_box_26 rfl (lv_at hl 0 rfl) ?_
      refine va_get (D := (dC, dI)) (ci := 2) (v := .int (nI (zl_n S))) (C := RzL) (T := TzL) (N := 9) hx hb hz inzL hown hK hP 0 rfl rfl 1 (by decide) (hz _ zi_58) (fun _ h9 => h9) rfl dz_L_box_27 ?_
      have h60 := zl_lt60 hok c_3
      refine va_new (ci := 0) (fs := zb_F zb_0) (C := RzB) (T := TzB) (N := 9) hx hb hz inzB tyzB tyzB_ok hown (hz _ zi_46) (hz _ zi_82) (hz _ zi_36) hK hP hD hS hA rfl (fun j hj => by rcases (show j = 0 ∨ j = 1 ∨ j = 2 ∨ j = 3 ∨ j = 4 ∨ j = 5 ∨ j = 6 ∨ j = 7 ∨ j = 8 by omega) with rfl | rfl | rfl | rfl | rfl | rfl | rfl | rfl | rfl <;> rfl) (Nat.le_of_ble_eq_true rfl) (Nat.le_of_ble_eq_true rfl) dz_L_box_30 (fun q H hP hD hS => ?_)
      refine W.widen (k := 1) (n := 9) (by omega) (by omega) ?_
      refine lv_dup hx hb dz_L_box_33 rfl ?_
      refine lv_iload_n hx hb dz_L_box_34 rfl (lv_at hl 1 rfl) ?_
      have hPc : va_P (dC, dI) vwCl (zb_W q zb_0) H := zw_P1 hP (zl_new_at _)
      have hDc : va_D A (zb_W q zb_0) := zw_D1 hD (zl_new_at _)
      have hFc := zw_free hS hA hDc
      refine va_callv (va_runIN (As := [.int p1]) (rest := [.ref q, .int (nI (zl_n S)), .ref a.1]) ⟨hx, hb, hml, hown, hz⟩ (ct_B_init l dC dI cq ci q zb_0 H.size p1) ⟨va_cnB 1 hz (zw_g1 zi_84) rfl rfl rfl (hN _ zn_2) (hz _ zi_36) (by decide +kernel) ⟨Nat.le_of_ble_eq_true rfl, Nat.le_of_ble_eq_true rfl⟩, rfl, hz _ zi_83⟩ (zw_preU zw_ns_ok hPc hDc hK hN) rfl rfl hl.1 rfl (lv_room (Nat.le_of_ble_eq_true rfl)) dz_L_box_35 ⟨Nat.le_of_ble_eq_true rfl, Nat.le_of_ble_eq_true rfl⟩) hS (fun q _ h => hFc q h) hFc (fun u t H1 locs ht hvm hw hB hz1 hk1 hS => ?_)
      have hB : va_P (dC, dI) vwCl (zb_W q (zb_init zb_0 p1)) t.heap := hB
      rw [ht] at hB
      obtain ⟨hP, hD⟩ := zw_join1 hP hD (zl_new_at _) hk1 hB
      generalize H1 = H at hP hS ⊢
      rw [zl_new_set] at hP hD
      refine W.widen (k := 1) (n := 9) (by omega) (by omega) ?_
      have hin60 : vp_in (nI (zl_n S)) 60 := vp_in_nI h60 (by decide)
      refine va_astq (r := (RzB, TzB, 9)) hx hb hK hP hD hS 1 0 (zl_n S + 5) 0 rfl rfl (zl_new_at _) rfl hin60 dz_L_box_38 (fun H locs hP hD hS => ?_)
      rw [nI_clamp (show zl_n S < 2 ^ 31 by omega)] at hP hD
      refine lv_aload_n hx hb dz_L_box_39 rfl (lv_at hl 0 rfl) ?_
      refine lv_dup hx hb dz_L_box_40 rfl ?_
      refine va_get (D := (dC, dI)) (ci := 2) (v := .int (nI (zl_n S))) (C := RzL) (T := TzL) (N := 9) hx hb hz inzL hown hK hP 0 rfl rfl 1 (by decide) (hz _ zi_58) (fun _ h9 => h9) rfl dz_L_box_41 ?_
      refine lv_iconst (v := 1) hx hb dz_L_box_44 (by decide) ?_
      refine lv_iadd hx hb dz_L_box_45 ?_
      refine W.eq (g2 := F0 m 46 ls [.int (nI (zl_n S + 1)), .ref h0]) (congrArg (fun z => F0 m 46 ls (.int z :: [.ref h0])) (nI_1 _)) ?_
      refine va_put (D := (dC, dI)) (ci := 2) (v := .int (nI (zl_n S + 1))) (ty := .int) (C := RzL) (T := TzL) (N := 9) hx hb hz inzL tyzL tyzL_ok nmzL hown hK hP hD hS 0 rfl rfl 1 (by decide) (hz _ zi_58) (fun _ h9 => h9) rfl (by decide +kernel) rfl rfl (Nat.le_of_ble_eq_true rfl) dz_L_box_46 (fun H locs hP hD hS => ?_)
      have hP : va_P (dC, dI) vwCl (zl_W cq ci h0 (zl_adUp a (zl_n S) q) (zl_grow S (zb_init zb_0 p1))) H := by rw [← zl_grow_eq]; exact hP
      have hD : va_D A (zl_W cq ci h0 (zl_adUp a (zl_n S) q) (zl_grow S (zb_init zb_0 p1))) := by rw [← zl_grow_eq]; exact hD
      refine lv_aload_n hx hb dz_L_box_49 rfl (lv_at hl 0 rfl) ?_
      refine va_get (D := (dC, dI)) (ci := 2) (v := .int (nI (zl_n S + 1))) (C := RzL) (T := TzL) (N := 9) hx hb hz inzL hown hK hP 0 rfl rfl 1 (by decide) (hz _ zi_58) (fun _ h9 => h9) rfl dz_L_box_50 ?_
      have hE_4 : zl_addbox S p1 = (nI (zl_n S + 1), zl_grow S (zb_init zb_0 p1)) := by simp only [zl_addbox, if_neg c_2, if_pos c_3]
      exact W.iret (v := nI (zl_n S + 1)) hx hb hr (fun t ht hW => ⟨⟨_, zl_adUp a (zl_n S) q, rfl, by show nI (zl_n S + 1) = (zl_addbox S p1).1; rw [hE_4], by show va_P (dC, dI) vwCl (zl_W cq ci h0 (zl_adUp a (zl_n S) q) (zl_addbox S p1).2) t.heap; rw [ht, hE_4]; exact hP, by show va_D A (zl_W cq ci h0 (zl_adUp a (zl_n S) q) (zl_addbox S p1).2); rw [hE_4]; exact hD⟩, hS.F ht⟩) hS.2.2 dz_L_box_53
    · refine lv_bipush (v := -14) hx hb dz_L_box_19 (by decide) ?_
      have hE_5 : zl_addbox S p1 = ((-14), S) := by simp only [zl_addbox, if_neg c_2, if_neg c_3]
      refine W.widen (k := 1) (n := 9) (by omega) (by omega) ?_
      exact W.iret (v := (-14)) hx hb hr (fun t ht hW => ⟨⟨_, a, rfl, by show (-14) = (zl_addbox S p1).1; rw [hE_5], by show va_P (dC, dI) vwCl (zl_W cq ci h0 a (zl_addbox S p1).2) t.heap; rw [ht, hE_5]; exact hP, by show va_D A (zl_W cq ci h0 a (zl_addbox S p1).2); rw [hE_5]; exact hD⟩, hS.F ht⟩) hS.2.2 dz_L_box_21
  · refine lv_bipush (v := -12) hx hb dz_L_box_7 (by decide) ?_
    have hE_6 : zl_addbox S p1 = ((-12), S) := by simp only [zl_addbox, if_pos c_2]
    refine W.widen (k := 1) (n := 9) (by omega) (by omega) ?_
    exact W.iret (v := (-12)) hx hb hr (fun t ht hW => ⟨⟨_, a, rfl, by show (-12) = (zl_addbox S p1).1; rw [hE_6], by show va_P (dC, dI) vwCl (zl_W cq ci h0 a (zl_addbox S p1).2) t.heap; rw [ht, hE_6]; exact hP, by show va_D A (zl_W cq ci h0 a (zl_addbox S p1).2); rw [hE_6]; exact hD⟩, hS.F ht⟩) hS.2.2 dz_L_box_9
end
section
/-! THE STATE of the reference. zm_ -/
abbrev zm_S : Type := Nat × (Nat → Int32) × (Nat → Int32) × (Nat → Int64) × (Nat → Int32) × (Nat → Int32) × (Nat → Int32) × (Nat → Int64) × (Nat → Int32) × (Nat → Int64) × Int64 × Int32 × Int32 × Int64 × Nat × (Nat → Int32) × Nat × (Nat → Int32)
def zm_nb (M : zm_S) : Nat := M.1
def zm_sz (M : zm_S) : Nat → Int32 := M.2.1
def zm_dr (M : zm_S) : Nat → Int32 := M.2.2.1
def zm_si (M : zm_S) : Nat → Int64 := M.2.2.2.1
def zm_to (M : zm_S) : Nat → Int32 := M.2.2.2.2.1
def zm_it (M : zm_S) : Nat → Int32 := M.2.2.2.2.2.1
def zm_co (M : zm_S) : Nat → Int32 := M.2.2.2.2.2.2.1
def zm_li (M : zm_S) : Nat → Int64 := M.2.2.2.2.2.2.2.1
def zm_la (M : zm_S) : Nat → Int32 := M.2.2.2.2.2.2.2.2.1
def zm_ke (M : zm_S) : Nat → Int64 := M.2.2.2.2.2.2.2.2.2.1
def zm_T (M : zm_S) : Int64 := M.2.2.2.2.2.2.2.2.2.2.1
def zm_A (M : zm_S) : Int32 := M.2.2.2.2.2.2.2.2.2.2.2.1
def zm_R (M : zm_S) : Int32 := M.2.2.2.2.2.2.2.2.2.2.2.2.1
def zm_K (M : zm_S) : Int64 := M.2.2.2.2.2.2.2.2.2.2.2.2.2.1
def zm_tn (M : zm_S) : Nat := M.2.2.2.2.2.2.2.2.2.2.2.2.2.2.1
def zm_tp (M : zm_S) : Nat → Int32 := M.2.2.2.2.2.2.2.2.2.2.2.2.2.2.2.1
def zm_fn (M : zm_S) : Nat := M.2.2.2.2.2.2.2.2.2.2.2.2.2.2.2.2.1
def zm_fr (M : zm_S) : Nat → Int32 := M.2.2.2.2.2.2.2.2.2.2.2.2.2.2.2.2.2
def zm_snb (M : zm_S) (v : Nat) : zm_S := (v, zm_sz M, zm_dr M, zm_si M, zm_to M, zm_it M, zm_co M, zm_li M, zm_la M, zm_ke M, zm_T M, zm_A M, zm_R M, zm_K M, zm_tn M, zm_tp M, zm_fn M, zm_fr M)
def zm_ssz (M : zm_S) (v : Nat → Int32) : zm_S := (zm_nb M, v, zm_dr M, zm_si M, zm_to M, zm_it M, zm_co M, zm_li M, zm_la M, zm_ke M, zm_T M, zm_A M, zm_R M, zm_K M, zm_tn M, zm_tp M, zm_fn M, zm_fr M)
def zm_sdr (M : zm_S) (v : Nat → Int32) : zm_S := (zm_nb M, zm_sz M, v, zm_si M, zm_to M, zm_it M, zm_co M, zm_li M, zm_la M, zm_ke M, zm_T M, zm_A M, zm_R M, zm_K M, zm_tn M, zm_tp M, zm_fn M, zm_fr M)
def zm_ssi (M : zm_S) (v : Nat → Int64) : zm_S := (zm_nb M, zm_sz M, zm_dr M, v, zm_to M, zm_it M, zm_co M, zm_li M, zm_la M, zm_ke M, zm_T M, zm_A M, zm_R M, zm_K M, zm_tn M, zm_tp M, zm_fn M, zm_fr M)
def zm_sto (M : zm_S) (v : Nat → Int32) : zm_S := (zm_nb M, zm_sz M, zm_dr M, zm_si M, v, zm_it M, zm_co M, zm_li M, zm_la M, zm_ke M, zm_T M, zm_A M, zm_R M, zm_K M, zm_tn M, zm_tp M, zm_fn M, zm_fr M)
def zm_sit (M : zm_S) (v : Nat → Int32) : zm_S := (zm_nb M, zm_sz M, zm_dr M, zm_si M, zm_to M, v, zm_co M, zm_li M, zm_la M, zm_ke M, zm_T M, zm_A M, zm_R M, zm_K M, zm_tn M, zm_tp M, zm_fn M, zm_fr M)
def zm_sco (M : zm_S) (v : Nat → Int32) : zm_S := (zm_nb M, zm_sz M, zm_dr M, zm_si M, zm_to M, zm_it M, v, zm_li M, zm_la M, zm_ke M, zm_T M, zm_A M, zm_R M, zm_K M, zm_tn M, zm_tp M, zm_fn M, zm_fr M)
def zm_sli (M : zm_S) (v : Nat → Int64) : zm_S := (zm_nb M, zm_sz M, zm_dr M, zm_si M, zm_to M, zm_it M, zm_co M, v, zm_la M, zm_ke M, zm_T M, zm_A M, zm_R M, zm_K M, zm_tn M, zm_tp M, zm_fn M, zm_fr M)
def zm_sla (M : zm_S) (v : Nat → Int32) : zm_S := (zm_nb M, zm_sz M, zm_dr M, zm_si M, zm_to M, zm_it M, zm_co M, zm_li M, v, zm_ke M, zm_T M, zm_A M, zm_R M, zm_K M, zm_tn M, zm_tp M, zm_fn M, zm_fr M)
def zm_ske (M : zm_S) (v : Nat → Int64) : zm_S := (zm_nb M, zm_sz M, zm_dr M, zm_si M, zm_to M, zm_it M, zm_co M, zm_li M, zm_la M, v, zm_T M, zm_A M, zm_R M, zm_K M, zm_tn M, zm_tp M, zm_fn M, zm_fr M)
def zm_sT (M : zm_S) (v : Int64) : zm_S := (zm_nb M, zm_sz M, zm_dr M, zm_si M, zm_to M, zm_it M, zm_co M, zm_li M, zm_la M, zm_ke M, v, zm_A M, zm_R M, zm_K M, zm_tn M, zm_tp M, zm_fn M, zm_fr M)
def zm_sA (M : zm_S) (v : Int32) : zm_S := (zm_nb M, zm_sz M, zm_dr M, zm_si M, zm_to M, zm_it M, zm_co M, zm_li M, zm_la M, zm_ke M, zm_T M, v, zm_R M, zm_K M, zm_tn M, zm_tp M, zm_fn M, zm_fr M)
def zm_sR (M : zm_S) (v : Int32) : zm_S := (zm_nb M, zm_sz M, zm_dr M, zm_si M, zm_to M, zm_it M, zm_co M, zm_li M, zm_la M, zm_ke M, zm_T M, zm_A M, v, zm_K M, zm_tn M, zm_tp M, zm_fn M, zm_fr M)
def zm_sK (M : zm_S) (v : Int64) : zm_S := (zm_nb M, zm_sz M, zm_dr M, zm_si M, zm_to M, zm_it M, zm_co M, zm_li M, zm_la M, zm_ke M, zm_T M, zm_A M, zm_R M, v, zm_tn M, zm_tp M, zm_fn M, zm_fr M)
def zm_stn (M : zm_S) (v : Nat) : zm_S := (zm_nb M, zm_sz M, zm_dr M, zm_si M, zm_to M, zm_it M, zm_co M, zm_li M, zm_la M, zm_ke M, zm_T M, zm_A M, zm_R M, zm_K M, v, zm_tp M, zm_fn M, zm_fr M)
def zm_stp (M : zm_S) (v : Nat → Int32) : zm_S := (zm_nb M, zm_sz M, zm_dr M, zm_si M, zm_to M, zm_it M, zm_co M, zm_li M, zm_la M, zm_ke M, zm_T M, zm_A M, zm_R M, zm_K M, zm_tn M, v, zm_fn M, zm_fr M)
def zm_sfn (M : zm_S) (v : Nat) : zm_S := (zm_nb M, zm_sz M, zm_dr M, zm_si M, zm_to M, zm_it M, zm_co M, zm_li M, zm_la M, zm_ke M, zm_T M, zm_A M, zm_R M, zm_K M, zm_tn M, zm_tp M, v, zm_fr M)
def zm_sfr (M : zm_S) (v : Nat → Int32) : zm_S := (zm_nb M, zm_sz M, zm_dr M, zm_si M, zm_to M, zm_it M, zm_co M, zm_li M, zm_la M, zm_ke M, zm_T M, zm_A M, zm_R M, zm_K M, zm_tn M, zm_tp M, zm_fn M, v)
abbrev zm_Ad : Type := Nat × Nat × Nat × Nat × Nat × Nat × Nat × Nat × Nat × Nat × Nat
def zm_fs (a : zm_Ad) (M : zm_S) : List Value := [.int (nI (zm_nb M)), .ref a.1, .ref a.2.1, .ref a.2.2.1, .ref a.2.2.2.1, .ref a.2.2.2.2.1, .ref a.2.2.2.2.2.1, .ref a.2.2.2.2.2.2.1, .ref a.2.2.2.2.2.2.2.1, .ref a.2.2.2.2.2.2.2.2.1, .long (zm_T M), .int (zm_A M), .int (zm_R M), .long (zm_K M), .int (nI (zm_tn M)), .ref a.2.2.2.2.2.2.2.2.2.1, .int (nI (zm_fn M)), .ref a.2.2.2.2.2.2.2.2.2.2]
def zm_W (ci cj cz : ClassId) (h : Nat) (a : zm_Ad) (M : zm_S) : va_W := [(h, .inr (3, zm_fs a M)), (a.1, .inl (ci, 61, .inl (zm_sz M))), (a.2.1, .inl (ci, 61, .inl (zm_dr M))), (a.2.2.1, .inl (cj, 61, .inr (.inl (zm_si M)))), (a.2.2.2.1, .inl (cz, 61, .inl (zm_to M))), (a.2.2.2.2.1, .inl (ci, 61, .inl (zm_it M))), (a.2.2.2.2.2.1, .inl (ci, 61, .inl (zm_co M))), (a.2.2.2.2.2.2.1, .inl (cj, 61, .inr (.inl (zm_li M)))), (a.2.2.2.2.2.2.2.1, .inl (cz, 61, .inl (zm_la M))), (a.2.2.2.2.2.2.2.2.1, .inl (cj, 61, .inr (.inl (zm_ke M)))), (a.2.2.2.2.2.2.2.2.2.1, .inl (ci, 200, .inl (zm_tp M))), (a.2.2.2.2.2.2.2.2.2.2, .inl (ci, 100, .inl (zm_fr M)))]
abbrev zm_tys (ci cj cz : ClassId) : List (ClassId × FieldType) := [(ci, .int), (cj, .long), (cz, .boolean)]
def zm_ok (M : zm_S) : Prop := zm_nb M ≤ 60 ∧ zm_tn M ≤ 200 ∧ zm_fn M ≤ 100
theorem zm_n0 : vp_nar .boolean 0 = 0 := rfl
theorem zm_n1 : vp_nar .boolean 1 = 1 := rfl
def zm_within (p1 : Int64) (p2 : Int64) (p3 : Int64) : Int32 :=
  if lg_cmp p1 p2 < 0 then
    0
  else
  if 0 < lg_cmp p1 p3 then
    0
  else
    1
def zm_isBox (M : zm_S) (p1 : Int32) : Int32 :=
  zm_within p1.toInt64 1 ((nI (zm_nb M)).toInt64)
def zm_isNo (M : zm_S) (p1 : Int64) : Int32 :=
  if lg_cmp p1 (zm_T M) < 0 then
    1
  else
  if lg_cmp p1 2000000000 ≤ 0 then
    0
  else
    1
def zm_box (M : zm_S) (p1 : Int32) : Int32 × zm_S :=
  if zm_within p1.toInt64 1 5 = 0 then
    ((-12), M)
  else
  if nI (zm_nb M) = 60 then
    ((-14), M)
  else
    let S_4 := zm_snb M (zm_nb M + 1)
    let S_6 := zm_ssz S_4 (upd (zm_sz S_4) (zm_nb S_4) p1)
    let S_8 := zm_sco S_6 (upd (zm_co S_6) (zm_nb S_6) (-1))
    (nI (zm_nb S_8), S_8)
def zm_tape (M : zm_S) (p1 : Int32) : Int32 × zm_S :=
  if zm_within p1.toInt64 0 999999 = 0 then
    ((-12), M)
  else
  if nI (zm_tn M) = 200 then
    ((-14), M)
  else
    let S_5 := zm_stp M (upd (zm_tp M) (zm_tn M) p1)
    let S_6 := zm_stn S_5 (zm_tn S_5 + 1)
    (nI (zm_tn S_6), S_6)
def zm_p1 (p1 : Int64) (j : Nat) (S1 : zm_S) : zm_S :=
  if lg_cmp (zm_ke S1 (j + 1)) 0 ≤ 0 then
    S1
  else
  if 0 < lg_cmp (zm_ke S1 (j + 1)) p1 then
    S1
  else
    let S_40 := zm_ske S1 (vp_updL (zm_ke S1) (j + 1) 0)
    if 100 ≤ nI (zm_fn S_40) then
      S_40
    else
      let S_43 := zm_sfr S_40 (upd (zm_fr S_40) (zm_fn S_40) (nI (j + 1)))
      let S_44 := zm_sfn S_43 (zm_fn S_43 + 1)
      S_44
def zm_p2 (p1 : Int64) (j : Nat) (S2 : zm_S) : zm_S :=
  if zm_dr S2 (j + 1) = 1 then
    if zm_to S2 (j + 1) = 0 then
      if lg_cmp (p1 - (zm_si S2 (j + 1))) 120 < 0 then
        S2
      else
        let S_21 := zm_sto S2 (upd (zm_to S2) (j + 1) 1)
        let S_22 := zm_sA S_21 ((zm_A S_21) + 1)
        S_22
    else
      S2
  else
  if zm_dr S2 (j + 1) = 2 then
    if zm_to S2 (j + 1) = 0 then
      if lg_cmp (p1 - (zm_si S2 (j + 1))) 120 < 0 then
        S2
      else
        let S_32 := zm_sto S2 (upd (zm_to S2) (j + 1) 1)
        let S_33 := zm_sA S_32 ((zm_A S_32) + 1)
        S_33
    else
      S2
  else
    S2
def zm_p3 (p1 : Int64) (j : Nat) (S2 : zm_S) : zm_S :=
  if zm_co S2 (j + 1) < 0 then
    S2
  else
  if zm_la S2 (j + 1) = 0 then
    if lg_cmp (p1 - (zm_li S2 (j + 1))) 604800 < 0 then
      S2
    else
      let S_11 := zm_sla S2 (upd (zm_la S2) (j + 1) 1)
      let S_12 := zm_sA S_11 ((zm_A S_11) + 1)
      S_12
  else
    S2
def zm_lp (t : Int64) : Nat → Nat → zm_S → zm_S
  | 0, _, M => M
  | k + 1, j, M => zm_lp t k (j + 1) (zm_p3 t j (zm_p2 t j (zm_p1 t j M)))
def zm_pass (M : zm_S) (t : Int64) : zm_S := zm_lp t (zm_nb M) 0 (zm_sT M t)
def zm_bs (M : zm_S) (x : Int32) : Nat → Nat → Nat → Nat
  | 0, _, b => b
  | k + 1, j, b => if zm_dr M (j + 1) = 0 then if zm_it M (j + 1) = 0 then if lg_cmp (zm_ke M (j + 1)) 0 = 0 then if zm_sz M (j + 1) < x then zm_bs M x k (j + 1) b else if nI b = 0 then zm_bs M x k (j + 1) (j + 1) else if zm_sz M b ≤ zm_sz M (j + 1) then zm_bs M x k (j + 1) b else zm_bs M x k (j + 1) (j + 1) else zm_bs M x k (j + 1) b else zm_bs M x k (j + 1) b else zm_bs M x k (j + 1) b
def zm_reserve (M : zm_S) (p1 : Int32) (p2 : Int64) : Int32 × zm_S :=
  if zm_within p1.toInt64 1 5 = 0 then
    ((-12), M)
  else
  if lg_cmp p2 (zm_T M) ≤ 0 then
    ((-12), M)
  else
  if lg_cmp p2 2000000000 ≤ 0 then
    if nI (zm_bs M p1 (zm_nb M) 0 0) ≤ 0 then
      (nI (zm_bs M p1 (zm_nb M) 0 0), M)
    else
      let S_11 := zm_ske M (vp_updL (zm_ke M) (zm_bs M p1 (zm_nb M) 0 0) p2)
      (nI (zm_bs M p1 (zm_nb M) 0 0), S_11)
  else
    ((-12), M)
def zm_open (M : zm_S) (p1 : Int32) (p2 : Int32) : zm_S :=
  let S_2 := zm_sdr M (upd (zm_dr M) p1.toNatClampNeg p2)
  let S_4 := zm_ssi S_2 (vp_updL (zm_si S_2) p1.toNatClampNeg (zm_T S_2))
  let S_6 := zm_sto S_4 (upd (zm_to S_4) p1.toNatClampNeg 0)
  S_6
def zm_out (M : zm_S) (p1 : Int32) : Int32 × zm_S :=
  let S_3 := zm_sit M (upd (zm_it M) p1.toNatClampNeg 0)
  let S_5 := zm_sco S_3 (upd (zm_co S_3) p1.toNatClampNeg (-1))
  let S_7 := zm_sla S_5 (upd (zm_la S_5) p1.toNatClampNeg 0)
  (zm_it M p1.toNatClampNeg, S_7)
def zm_ic (M : zm_S) (x : Int32) : Nat → Nat → Int32
  | 0, _ => 0
  | k + 1, j => if zm_co M (j + 1) = x then 1 else zm_ic M x k (j + 1)
def zm_isCode (M : zm_S) (p1 : Int32) : Int32 :=
  zm_ic M p1 (zm_nb M) 0
def zm_cd (M : zm_S) (x : Int32) : Nat → Nat → Int32
  | 0, _ => -1
  | k + 1, j => if zm_it M (j + 1) = x then zm_co M (j + 1) else zm_cd M x k (j + 1)
def zm_code (M : zm_S) (p1 : Int32) : Int32 :=
  if zm_within p1.toInt64 1 9999 = 0 then
    (-12)
  else
    zm_cd M p1 (zm_nb M) 0
def zm_in (M : zm_S) (x : Int32) : Nat → Nat → Int32 → Int32
  | 0, _, v => v
  | k + 1, j, v => if v = 0 then (if zm_it M (j + 1) = x then zm_in M x k (j + 1) 1 else zm_in M x k (j + 1) 0) else zm_in M x k (j + 1) 1
def zm_put (M : zm_S) (p1 : Int32) (p2 : Int32) (p3 : Int64) : Int32 × zm_S :=
  if zm_isBox M p1 = 0 then
    ((-11), M)
  else
  if zm_within p2.toInt64 1 9999 = 0 then
    ((-12), M)
  else
  if zm_isNo M p3 = 0 then
    let S_9 := (zm_pass M p3)
    if zm_dr S_9 p1.toNatClampNeg = 1 then
      if 0 < zm_it S_9 p1.toNatClampNeg then
        (0, S_9)
      else
      if zm_in S_9 p2 (zm_nb S_9) 0 0 = 0 then
        let S_19 := zm_sit S_9 (upd (zm_it S_9) p1.toNatClampNeg p2)
        let S_21 := zm_ske S_19 (vp_updL (zm_ke S_19) p1.toNatClampNeg 0)
        (1, S_21)
      else
        (0, S_9)
    else
      (0, S_9)
  else
    ((-12), M)
def zm_wr (M : zm_S) (p2 : Int64) : Int32 × zm_S :=
  let S_10 := zm_sR M ((zm_R M) + 1)
  if zm_R S_10 = 3 then
    let S_13 := zm_sR S_10 0
    let S_14 := zm_sK S_13 (p2 + 300)
    (0, S_14)
  else
    (0, S_10)
def zm_ty (M : zm_S) (x : Int32) (t : Int64) : Nat → Nat → Int32 × zm_S
  | 0, _ => zm_wr M t
  | k + 1, j => if zm_co M (j + 1) = x then (if zm_dr M (j + 1) = 0 then (nI (j + 1), zm_sR (zm_open (zm_out M (nI (j + 1))).2 (nI (j + 1)) 1) 0) else zm_ty M x t k (j + 1)) else zm_ty M x t k (j + 1)
def zm_type (M : zm_S) (p1 : Int32) (p2 : Int64) : Int32 × zm_S :=
  if zm_within p1.toInt64 0 999999 = 0 then
    ((-12), M)
  else
  if zm_isNo M p2 = 0 then
    let S_7 := (zm_pass M p2)
    if 0 ≤ lg_cmp p2 (zm_K S_7) then
      zm_ty S_7 p1 p2 (zm_nb S_7) 0
    else
      ((-1), S_7)
  else
    ((-12), M)
def zm_at (M : zm_S) : Nat → Nat → Nat
  | 0, i => i
  | k + 1, i => if zm_isCode M (zm_tp M i) = 0 then i else zm_at M k (i + 1)
def zm_sh (d : Nat) : Nat → Nat → (Nat → Int32) → (Nat → Int32)
  | 0, _, f => f
  | k + 1, j, f => zm_sh d k (j + 1) (upd f j (f (j + d + 1)))
def zm_close (M : zm_S) (p1 : Int32) (p2 : Int64) : Int32 × zm_S :=
  if zm_isBox M p1 = 0 then
    ((-11), M)
  else
  if zm_isNo M p2 = 0 then
    let S_6 := (zm_pass M p2)
    if zm_dr S_6 p1.toNatClampNeg = 1 then
      if zm_it S_6 p1.toNatClampNeg ≤ 0 then
        let S_14 := zm_sdr S_6 (upd (zm_dr S_6) p1.toNatClampNeg 0)
        ((-1), S_14)
      else
      if 0 ≤ zm_co S_6 p1.toNatClampNeg then
        let S_22 := zm_sdr S_6 (upd (zm_dr S_6) p1.toNatClampNeg 0)
        ((-1), S_22)
      else
      if nI (zm_at S_6 (zm_tn S_6) 0) = nI (zm_tn S_6) then
        ((-14), S_6)
      else
        let S_28 := zm_sdr S_6 (upd (zm_dr S_6) p1.toNatClampNeg 0)
        let S_32 := zm_sco S_28 (upd (zm_co S_28) p1.toNatClampNeg (zm_tp S_28 (zm_at S_6 (zm_tn S_6) 0)))
        let S_34 := zm_sli S_32 (vp_updL (zm_li S_32) p1.toNatClampNeg p2)
        let S_36 := zm_sla S_34 (upd (zm_la S_34) p1.toNatClampNeg 0)
        let S_37 := zm_stn S_36 (zm_tn S_36 - zm_at S_6 (zm_tn S_6) 0 - 1)
        let S_38 := zm_stp S_37 (zm_sh (zm_at S_6 (zm_tn S_6) 0) (zm_tn S_37) 0 (zm_tp S_37))
        (zm_co S_38 p1.toNatClampNeg, S_38)
    else
      ((-13), S_6)
  else
    ((-12), M)
def zm_door (M : zm_S) (p1 : Int32) (p2 : Int32) (p3 : Int64) : Int32 × zm_S :=
  if zm_isBox M p1 = 0 then
    ((-11), M)
  else
  if zm_within p2.toInt64 0 4 = 0 then
    ((-12), M)
  else
  if zm_isNo M p3 = 0 then
    let S_9 := (zm_pass M p3)
    if p2 = 0 then
      if zm_dr S_9 p1.toNatClampNeg = 0 then
        if 2 ≤ p2 then
          if p2 = 3 then
            let S_119 := zm_sdr S_9 (upd (zm_dr S_9) p1.toNatClampNeg 3)
            (zm_dr S_119 p1.toNatClampNeg, S_119)
          else
            let S_115 := zm_sdr S_9 (upd (zm_dr S_9) p1.toNatClampNeg 0)
            (zm_dr S_115 p1.toNatClampNeg, S_115)
        else
          let S_124 := (zm_open S_9 p1 1)
          (zm_dr S_124 p1.toNatClampNeg, S_124)
      else
        ((-13), S_9)
    else
    if p2 = 1 then
      if zm_dr S_9 p1.toNatClampNeg = 0 then
        if 2 ≤ p2 then
          if p2 = 3 then
            let S_81 := zm_sdr S_9 (upd (zm_dr S_9) p1.toNatClampNeg 3)
            (zm_dr S_81 p1.toNatClampNeg, S_81)
          else
            let S_77 := zm_sdr S_9 (upd (zm_dr S_9) p1.toNatClampNeg 0)
            (zm_dr S_77 p1.toNatClampNeg, S_77)
        else
          let S_86 := (zm_open S_9 p1 2)
          (zm_dr S_86 p1.toNatClampNeg, S_86)
      else
      if zm_dr S_9 p1.toNatClampNeg = 1 then
        if 2 ≤ p2 then
          if p2 = 3 then
            let S_100 := zm_sdr S_9 (upd (zm_dr S_9) p1.toNatClampNeg 3)
            (zm_dr S_100 p1.toNatClampNeg, S_100)
          else
            let S_96 := zm_sdr S_9 (upd (zm_dr S_9) p1.toNatClampNeg 0)
            (zm_dr S_96 p1.toNatClampNeg, S_96)
        else
          let S_105 := (zm_open S_9 p1 2)
          (zm_dr S_105 p1.toNatClampNeg, S_105)
      else
        ((-13), S_9)
    else
    if p2 = 2 then
      if zm_dr S_9 p1.toNatClampNeg = 2 then
        if 2 ≤ p2 then
          if p2 = 3 then
            let S_64 := zm_sdr S_9 (upd (zm_dr S_9) p1.toNatClampNeg 3)
            (zm_dr S_64 p1.toNatClampNeg, S_64)
          else
            let S_60 := zm_sdr S_9 (upd (zm_dr S_9) p1.toNatClampNeg 0)
            (zm_dr S_60 p1.toNatClampNeg, S_60)
        else
          let S_69 := (zm_open S_9 p1 2)
          (zm_dr S_69 p1.toNatClampNeg, S_69)
      else
        ((-13), S_9)
    else
    if p2 = 3 then
      if zm_dr S_9 p1.toNatClampNeg = 0 then
        if zm_it S_9 p1.toNatClampNeg = 0 then
          if lg_cmp (zm_ke S_9 p1.toNatClampNeg) 0 = 0 then
            if 2 ≤ p2 then
              let S_45 := zm_sdr S_9 (upd (zm_dr S_9) p1.toNatClampNeg 3)
              (zm_dr S_45 p1.toNatClampNeg, S_45)
            else
              let S_50 := (zm_open S_9 p1 2)
              (zm_dr S_50 p1.toNatClampNeg, S_50)
          else
            ((-13), S_9)
        else
          ((-13), S_9)
      else
        ((-13), S_9)
    else
    if zm_dr S_9 p1.toNatClampNeg = 3 then
      if 2 ≤ p2 then
        let S_22 := zm_sdr S_9 (upd (zm_dr S_9) p1.toNatClampNeg 0)
        (zm_dr S_22 p1.toNatClampNeg, S_22)
      else
        let S_27 := (zm_open S_9 p1 2)
        (zm_dr S_27 p1.toNatClampNeg, S_27)
    else
      ((-13), S_9)
  else
    ((-12), M)
def zm_tick (M : zm_S) (p1 : Int64) : Int32 × zm_S :=
  if zm_isNo M p1 = 0 then
    let S_4 := (zm_pass M p1)
    let S_5 := zm_sA S_4 0
    (zm_A S_4, S_5)
  else
    ((-12), M)
def zm_take (M : zm_S) (p1 : Int32) (p2 : Int32) : Int32 × zm_S :=
  if zm_isBox M p1 = 0 then
    ((-11), M)
  else
  if zm_within p2.toInt64 0 9 = 0 then
    ((-12), M)
  else
  if zm_dr M p1.toNatClampNeg = 1 then
    let S_8 := (zm_out M p1).2
    ((zm_out M p1).1, S_8)
  else
  if zm_dr M p1.toNatClampNeg = 2 then
    let S_14 := (zm_out M p1).2
    ((zm_out M p1).1, S_14)
  else
    (0, M)
def zm_item (M : zm_S) (p1 : Int32) : Int32 :=
  if zm_isBox M p1 = 0 then
    (-11)
  else
  if zm_la M p1.toNatClampNeg = 0 then
    zm_it M p1.toNatClampNeg
  else
    -(zm_it M p1.toNatClampNeg)
def zm_freed (M : zm_S) (p1 : Int32) : Int32 :=
  if zm_within p1.toInt64 0 (((nI (zm_fn M)) - 1).toInt64) = 0 then
    0
  else
    zm_fr M p1.toNatClampNeg
theorem zm_within_01 (x y z : Int64) : zm_within x y z = 0 ∨ zm_within x y z = 1 := by
  unfold zm_within
  by_cases c1 : lg_cmp x y < 0
  · rw [if_pos c1]; exact Or.inl rfl
  · rw [if_neg c1]
    by_cases c2 : 0 < lg_cmp x z
    · rw [if_pos c2]; exact Or.inl rfl
    · rw [if_neg c2]; exact Or.inr rfl
theorem zm_within_nar (x y z : Int64) : narrow .boolean (.int (zm_within x y z)) = .int (zm_within x y z) := by
  rcases zm_within_01 x y z with h | h <;> rw [h] <;> rfl
theorem zm_within_yes {x y z : Int64} (h : ¬ zm_within x y z = 0) : y.toInt ≤ x.toInt ∧ x.toInt ≤ z.toInt := by
  unfold zm_within at h
  by_cases c1 : lg_cmp x y < 0
  · rw [if_pos c1] at h; exact absurd rfl h
  · rw [if_neg c1] at h
    by_cases c2 : 0 < lg_cmp x z
    · rw [if_pos c2] at h; exact absurd rfl h
    · rw [lg_cmp_lt, Int64.lt_iff_toInt_lt] at c1
      rw [lg_cmp_gt, Int64.lt_iff_toInt_lt] at c2
      omega
theorem zm_within_no {x y z : Int64} (h : zm_within x y z = 0) : ¬ (y.toInt ≤ x.toInt ∧ x.toInt ≤ z.toInt) := by
  unfold zm_within at h
  by_cases c1 : lg_cmp x y < 0
  · rw [lg_cmp_lt, Int64.lt_iff_toInt_lt] at c1
    omega
  · rw [if_neg c1] at h
    by_cases c2 : 0 < lg_cmp x z
    · rw [lg_cmp_gt, Int64.lt_iff_toInt_lt] at c2
      omega
    · rw [if_neg c2] at h; exact absurd h (by decide)
theorem zm_i2l (x : Int32) : x.toInt64.toInt = x.toInt := by simp
theorem zm_isBox_in {M : zm_S} {x : Int32} (hok : zm_ok M) (c : ¬ zm_isBox M x = 0) : vp_in x 61 := by
  have h := zm_within_yes (x := x.toInt64) (y := 1) (z := (nI (zm_nb M)).toInt64) c
  rw [zm_i2l, zm_i2l, nI_toInt (by have := hok.1; omega)] at h
  have h1 : (1 : Int64).toInt = 1 := by decide
  rw [h1] at h
  have := hok.1
  exact vp_in_iff.mpr ⟨by omega, by omega⟩
theorem zm_free_in {M : zm_S} {x : Int32} (hok : zm_ok M) (c : ¬ zm_within x.toInt64 0 ((nI (zm_fn M) - 1).toInt64) = 0) : vp_in x 100 := by
  have h := zm_within_yes c
  rw [zm_i2l, zm_i2l] at h
  have h1 : (0 : Int64).toInt = 0 := by decide
  have h2 : (nI (zm_fn M) - 1).toInt = (zm_fn M : Int) - 1 := pk_sub_toInt (b := 1) (by have := hok.2.2; omega) (by omega)
  rw [h1, h2] at h
  have := hok.2.2
  exact vp_in_iff.mpr ⟨by omega, by omega⟩
theorem zm_lt60 {M : zm_S} (hok : zm_ok M) (c : ¬ nI (zm_nb M) = 60) : zm_nb M < 60 := by
  have h : ¬ zm_nb M = 60 := fun q => c (by rw [q]; rfl)
  have := hok.1
  omega
theorem zm_lt200 {M : zm_S} (hok : zm_ok M) (c : ¬ nI (zm_tn M) = 200) : zm_tn M < 200 := by
  have h : ¬ zm_tn M = 200 := fun q => c (by rw [q]; rfl)
  have := hok.2.1
  omega
theorem zm_lt100 {M : zm_S} (hok : zm_ok M) (c : ¬ 100 ≤ nI (zm_fn M)) : zm_fn M < 100 := Nat.lt_of_not_le (fun h => c (nI_le (a := 100) h (by have := hok.2.2; omega)))
theorem zm_at_le {M : zm_S} : ∀ (k i : Nat), zm_at M k i ≤ i + k := by
  intro k
  induction k with
  | zero => intro i; exact Nat.le_refl _
  | succ k ih =>
    intro i
    unfold zm_at
    by_cases c : zm_isCode M (zm_tp M i) = 0
    · rw [if_pos c]; omega
    · rw [if_neg c]
      have := ih (i + 1)
      omega
theorem zm_at_lt {M : zm_S} (_ : zm_ok M) (c : ¬ nI (zm_at M (zm_tn M) 0) = nI (zm_tn M)) : zm_at M (zm_tn M) 0 < zm_tn M := by
  have h1 := zm_at_le (M := M) (zm_tn M) 0
  have h2 : ¬ zm_at M (zm_tn M) 0 = zm_tn M := fun q => c (by rw [q])
  omega
theorem zm_ok_open {M : zm_S} {x y : Int32} (hok : zm_ok M) : zm_ok (zm_open M x y) := hok
theorem zm_ok_out {M : zm_S} {x : Int32} (hok : zm_ok M) : zm_ok (zm_out M x).2 := hok
theorem zm_p3_ok {M : zm_S} {t : Int64} {j : Nat} (hok : zm_ok M) : zm_ok (zm_p3 t j M) ∧ zm_nb (zm_p3 t j M) = zm_nb M := by
  unfold zm_p3
  (repeat' split) <;> exact ⟨hok, rfl⟩
theorem zm_p2_ok {M : zm_S} {t : Int64} {j : Nat} (hok : zm_ok M) : zm_ok (zm_p2 t j M) ∧ zm_nb (zm_p2 t j M) = zm_nb M := by
  unfold zm_p2
  (repeat' split) <;> exact ⟨hok, rfl⟩
theorem zm_p1_ok {M : zm_S} {t : Int64} {j : Nat} (hok : zm_ok M) : zm_ok (zm_p1 t j M) ∧ zm_nb (zm_p1 t j M) = zm_nb M := by
  have hk : ¬ 100 ≤ nI (zm_fn M) → zm_fn M + 1 ≤ 100 := fun c => zm_lt100 hok c
  simp only [zm_p1]
  (repeat' split) <;> first | exact ⟨hok, rfl⟩ | (rename_i c; exact ⟨⟨hok.1, hok.2.1, hk c⟩, rfl⟩)
theorem zm_lp_ok {t : Int64} : ∀ (k j : Nat) (M : zm_S), zm_ok M → zm_ok (zm_lp t k j M) ∧ zm_nb (zm_lp t k j M) = zm_nb M := by
  intro k
  induction k with
  | zero => intro j M h; exact ⟨h, rfl⟩
  | succ k ih =>
    intro j M h
    have h1 := zm_p1_ok (t := t) (j := j) h
    have h2 := zm_p2_ok (t := t) (j := j) h1.1
    have h3 := zm_p3_ok (t := t) (j := j) h2.1
    have h4 := ih (j + 1) _ h3.1
    exact ⟨h4.1, h4.2.trans (h3.2.trans (h2.2.trans h1.2))⟩
theorem zm_ok_pass {M : zm_S} {t : Int64} (hok : zm_ok M) : zm_ok (zm_pass M t) := (zm_lp_ok _ _ (zm_sT M t) hok).1
theorem zm_nb_pass {M : zm_S} {t : Int64} (hok : zm_ok M) : zm_nb (zm_pass M t) = zm_nb M := (zm_lp_ok _ _ (zm_sT M t) hok).2
end
section
set_option maxHeartbeats 4000000 in
set_option maxRecDepth 100000 in
theorem ct_M_within (l : Launch) (dC : Nat → ClassId) (dI : Nat → Nat → Nat) (ci cj cz : ClassId) (p1 : Int64) (p2 : Int64) (p3 : Int64) : Met l yz_M_within wz_M_within (zw_room 0 0 0) (zw_R zw_ns (dC, dI) vwCl (zm_tys ci cj cz) [.long p1, .long p2, .long p3] []) (vp_Si (fun r => r = zm_within p1 p2 p3)) 0 0 (fun _ => False) := by
  refine Met.ofW (cc := cz_M_within) (maxL := 6) (ret := (some .boolean)) (by decide) rfl ?_
  intro p e s m args below meth c s₁ B hml hv
  obtain ⟨rfl, hP, hK, hN⟩ := hv
  have hx := B.exec
  have hb := B.bytes
  have hr := B.returns
  have hts := atoms_spec (ws := wz_M_within) B.pre
  have hz : ∀ w ∈ zw_T, w.before ([.long p1, .long p2, .long p3] : List Value).toArray s = true := fun w h => hts w (List.mem_cons_of_mem _ h)
  have hown : s.vm.findClass RzM = some m.cls := findClass_of_methodNamed B.named
  have hlocks := B.notSynchronized
  have hl := lv_entry ([.long p1, .long p2, .long p3]) (n := 6) (Nat.le_of_ble_eq_true rfl)
  rw [lg_entry_eq]
  generalize (lg_sl ([.long p1, .long p2, .long p3]) ++ List.replicate (6 - (lg_sl ([.long p1, .long p2, .long p3])).length) Slot.unset).toArray = ls at hl ⊢
  have hl : lv_has ls 6 [(0, .long p1), (2, .long p2), (4, .long p3)] := hl
  refine lv_lload_n hx hb dz_M_within_0 rfl (lv_at hl 0 rfl) ?_
  refine lv_lload_n hx hb dz_M_within_1 rfl (lv_at hl 1 rfl) ?_
  refine W.lcmp hx hb dz_M_within_2 ?_
  refine lv_if_lt (tgt := 17) hx hb dz_M_within_3 (by decide) (fun c_1 => ?_) (fun c_1 => ?_)
  · refine lv_iconst (v := 0) hx hb dz_M_within_17 (by decide) ?_
    exact W.zret (v := 0) (ty := .boolean) hx hb hr rfl (fun t ht hW => ⟨_, rfl, by simp only [zm_within, if_pos c_1], ht⟩) (fun _ h => by cases h) dz_M_within_18
  · refine lv_lload_n hx hb dz_M_within_6 rfl (lv_at hl 0 rfl) ?_
    refine lv_lload hx hb dz_M_within_7 (lv_at hl 2 rfl) ?_
    refine W.lcmp hx hb dz_M_within_9 ?_
    refine lv_if_gt (tgt := 17) hx hb dz_M_within_10 (by decide) (fun c_2 => ?_) (fun c_2 => ?_)
    · refine lv_iconst (v := 0) hx hb dz_M_within_17 (by decide) ?_
      exact W.zret (v := 0) (ty := .boolean) hx hb hr rfl (fun t ht hW => ⟨_, rfl, by simp only [zm_within, if_neg c_1, if_pos c_2], ht⟩) (fun _ h => by cases h) dz_M_within_18
    · refine lv_iconst (v := 1) hx hb dz_M_within_13 (by decide) ?_
      refine lv_goto (tgt := 18) hx hb dz_M_within_14 (by decide) ?_
      exact W.zret (v := 1) (ty := .boolean) hx hb hr rfl (fun t ht hW => ⟨_, rfl, by simp only [zm_within, if_neg c_1, if_neg c_2], ht⟩) (fun _ h => by cases h) dz_M_within_18
set_option maxHeartbeats 4000000 in
set_option maxRecDepth 100000 in
theorem ct_M_isBox (l : Launch) (dC : Nat → ClassId) (dI : Nat → Nat → Nat) (ci cj cz : ClassId) (h0 : Nat) (a : zm_Ad) (M : zm_S) (hok : zm_ok M) (p1 : Int32) : Met l yz_M_isBox wz_M_isBox (zw_room 1 0 0) (zw_R zw_ns (dC, dI) vwCl (zm_tys ci cj cz) [.ref h0, .int p1] (zm_W ci cj cz h0 a M)) (vp_Si (fun r => r = zm_isBox M p1)) 0 0 (fun _ => False) := by
  refine Met.ofW (cc := cz_M_isBox) (maxL := 2) (ret := (some .boolean)) (by decide) rfl ?_
  intro p e s m args below meth c s₁ B hml hv
  obtain ⟨rfl, hP, hK, hN⟩ := hv
  have hx := B.exec
  have hb := B.bytes
  have hr := B.returns
  have hts := atoms_spec (ws := wz_M_isBox) B.pre
  have hz : ∀ w ∈ zw_T, w.before ([.ref h0, .int p1] : List Value).toArray s = true := fun w h => hts w (List.mem_cons_of_mem _ h)
  have hown : s.vm.findClass RzM = some m.cls := findClass_of_methodNamed B.named
  have hlocks := B.notSynchronized
  have hok0 := hok
  have hl := lv_entry ([.ref h0, .int p1]) (n := 2) (Nat.le_of_ble_eq_true rfl)
  rw [lg_entry_eq]
  generalize (lg_sl ([.ref h0, .int p1]) ++ List.replicate (2 - (lg_sl ([.ref h0, .int p1])).length) Slot.unset).toArray = ls at hl ⊢
  have hl : lv_has ls 2 [(0, .ref h0), (1, .int p1)] := hl
  refine lv_iload_n hx hb dz_M_isBox_0 rfl (lv_at hl 1 rfl) ?_
  refine lv_i2l (v := p1.toInt64) hx hb dz_M_isBox_1 rfl ?_
  refine lv_lconst (v := 1) hx hb dz_M_isBox_2 (by decide) ?_
  refine lv_aload_n hx hb dz_M_isBox_3 rfl (lv_at hl 0 rfl) ?_
  refine va_get (D := (dC, dI)) (ci := 3) (v := .int (nI (zm_nb M))) (C := RzM) (T := TzM) (N := 18) hx hb hz inzM hown hK hP 0 rfl rfl 0 (by decide) (hz _ zi_236) (fun _ h9 => h9) rfl dz_M_isBox_4 ?_
  refine lv_i2l (v := (nI (zm_nb M)).toInt64) hx hb dz_M_isBox_7 rfl ?_
  refine vp_callSi (va_Run.run (va_runS (As := [.long p1.toInt64, .long 1, .long ((nI (zm_nb M)).toInt64)]) (rest := []) ⟨hx, hb, hml, hown, hz⟩ (ct_M_within l dC dI ci cj cz p1.toInt64 1 ((nI (zm_nb M)).toInt64)) (cwS 3 hz (zw_gS zi_279 zi_280 zi_35 zi_281) rfl rfl rfl (by decide +kernel) ⟨Nat.le_of_ble_eq_true rfl, Nat.le_of_ble_eq_true rfl⟩) (zw_preR zw_ns_ok (ws := []) (fun k q h => by simp at h) hK hN) rfl rfl hl.1 rfl (lv_room (Nat.le_of_ble_eq_true rfl)) dz_M_isBox_8 ⟨Nat.le_of_ble_eq_true rfl, Nat.le_of_ble_eq_true rfl⟩)) (fun r_1 hr_1 => ?_)
  have hr_1 : r_1 = zm_within p1.toInt64 1 ((nI (zm_nb M)).toInt64) := hr_1
  subst hr_1
  exact W.zret (v := zm_within p1.toInt64 1 ((nI (zm_nb M)).toInt64)) (ty := .boolean) hx hb hr (zm_within_nar _ _ _) (fun t ht hW => ⟨_, rfl, by simp only [zm_isBox], ht⟩) (fun _ h => by cases h) dz_M_isBox_11
set_option maxHeartbeats 4000000 in
set_option maxRecDepth 100000 in
theorem ct_M_isNoTime (l : Launch) (dC : Nat → ClassId) (dI : Nat → Nat → Nat) (ci cj cz : ClassId) (h0 : Nat) (a : zm_Ad) (M : zm_S) (hok : zm_ok M) (p1 : Int64) : Met l yz_M_isNoTime wz_M_isNoTime (zw_room 0 0 0) (zw_R zw_ns (dC, dI) vwCl (zm_tys ci cj cz) [.ref h0, .long p1] (zm_W ci cj cz h0 a M)) (vp_Si (fun r => r = zm_isNo M p1)) 0 0 (fun _ => False) := by
  refine Met.ofW (cc := cz_M_isNoTime) (maxL := 3) (ret := (some .boolean)) (by decide) rfl ?_
  intro p e s m args below meth c s₁ B hml hv
  obtain ⟨rfl, hP, hK, hN⟩ := hv
  have hx := B.exec
  have hb := B.bytes
  have hr := B.returns
  have hts := atoms_spec (ws := wz_M_isNoTime) B.pre
  have hz : ∀ w ∈ zw_T, w.before ([.ref h0, .long p1] : List Value).toArray s = true := fun w h => hts w (List.mem_cons_of_mem _ h)
  have hown : s.vm.findClass RzM = some m.cls := findClass_of_methodNamed B.named
  have hlocks := B.notSynchronized
  have hok0 := hok
  have hl := lv_entry ([.ref h0, .long p1]) (n := 3) (Nat.le_of_ble_eq_true rfl)
  rw [lg_entry_eq]
  generalize (lg_sl ([.ref h0, .long p1]) ++ List.replicate (3 - (lg_sl ([.ref h0, .long p1])).length) Slot.unset).toArray = ls at hl ⊢
  have hl : lv_has ls 3 [(0, .ref h0), (1, .long p1)] := hl
  refine lv_lload_n hx hb dz_M_isNoTime_0 rfl (lv_at hl 1 rfl) ?_
  refine lv_aload_n hx hb dz_M_isNoTime_1 rfl (lv_at hl 0 rfl) ?_
  refine va_get (D := (dC, dI)) (ci := 3) (v := .long (zm_T M)) (C := RzM) (T := TzM) (N := 18) hx hb hz inzM hown hK hP 0 rfl rfl 10 (by decide) (hz _ zi_246) (fun _ h9 => h9) rfl dz_M_isNoTime_2 ?_
  refine W.lcmp hx hb dz_M_isNoTime_5 ?_
  refine lv_if_lt (tgt := 17) hx hb dz_M_isNoTime_6 (by decide) (fun c_1 => ?_) (fun c_1 => ?_)
  · refine lv_iconst (v := 1) hx hb dz_M_isNoTime_17 (by decide) ?_
    refine lv_goto (tgt := 22) hx hb dz_M_isNoTime_18 (by decide) ?_
    exact W.zret (v := 1) (ty := .boolean) hx hb hr rfl (fun t ht hW => ⟨_, rfl, by simp only [zm_isNo, if_pos c_1], ht⟩) (fun _ h => by cases h) dz_M_isNoTime_22
  · refine lv_lload_n hx hb dz_M_isNoTime_9 rfl (lv_at hl 1 rfl) ?_
    refine lv_ldc2 (v := 2000000000) hx hb hown (hz _ zi_291) dz_M_isNoTime_10 ?_
    refine W.lcmp hx hb dz_M_isNoTime_13 ?_
    refine lv_if_le (tgt := 21) hx hb dz_M_isNoTime_14 (by decide) (fun c_2 => ?_) (fun c_2 => ?_)
    · refine lv_iconst (v := 0) hx hb dz_M_isNoTime_21 (by decide) ?_
      exact W.zret (v := 0) (ty := .boolean) hx hb hr rfl (fun t ht hW => ⟨_, rfl, by simp only [zm_isNo, if_neg c_1, if_pos c_2], ht⟩) (fun _ h => by cases h) dz_M_isNoTime_22
    · refine lv_iconst (v := 1) hx hb dz_M_isNoTime_17 (by decide) ?_
      refine lv_goto (tgt := 22) hx hb dz_M_isNoTime_18 (by decide) ?_
      exact W.zret (v := 1) (ty := .boolean) hx hb hr rfl (fun t ht hW => ⟨_, rfl, by simp only [zm_isNo, if_neg c_1, if_neg c_2], ht⟩) (fun _ h => by cases h) dz_M_isNoTime_22
set_option maxHeartbeats 4000000 in
set_option maxRecDepth 100000 in
theorem ct_M_box (l : Launch) (dC : Nat → ClassId) (dI : Nat → Nat → Nat) (ci cj cz : ClassId) (h0 : Nat) (a : zm_Ad) (M : zm_S) (hok : zm_ok M) (sz : Nat) (p1 : Int32) : Met l yz_M_box wz_M_box (zw_room 1 0 0) (zw_U zw_ns (dC, dI) vwCl (zm_tys ci cj cz) [.ref h0, .int p1] (zm_W ci cj cz h0 a M) sz) (va_Qi (fun (r : Int32) (_ : Unit) => r = (zm_box M p1).1) (fun (_ : Unit) (t : State) => va_P (dC, dI) vwCl (zm_W ci cj cz h0 a ((zm_box M p1).2)) t.heap ∧ va_D (va_A (zm_W ci cj cz h0 a M) sz) (zm_W ci cj cz h0 a ((zm_box M p1).2))) (va_A (zm_W ci cj cz h0 a M) sz)) 0 0 (va_A (zm_W ci cj cz h0 a M) sz) := by
  refine Met.ofW (cc := cz_M_box) (maxL := 2) (ret := (some .int)) (by decide) rfl ?_
  intro p e s m args below meth c s₁ B hml hv
  obtain ⟨rfl, hsz, hP, hK, hD0, hN⟩ := hv
  have hx := B.exec
  have hb := B.bytes
  have hr := B.returns
  have hts := atoms_spec (ws := wz_M_box) B.pre
  have hz : ∀ w ∈ zw_T, w.before ([.ref h0, .int p1] : List Value).toArray s = true := fun w h => hts w (List.mem_cons_of_mem _ h)
  have hown : s.vm.findClass RzM = some m.cls := findClass_of_methodNamed B.named
  have hlocks := B.notSynchronized
  have hok0 := hok
  subst hsz
  have hD := hD0.self (sz := s.heap.size)
  generalize hAe : va_A (zm_W ci cj cz h0 a M) s.heap.size = A at hD ⊢
  have hA : ∀ q : Nat, s.heap.size ≤ q → A q := fun q h => by rw [← hAe]; exact Or.inr h
  have hS : va_S A s.heap s.heap [] := va_S.rf
  have hl := lv_entry ([.ref h0, .int p1]) (n := 2) (Nat.le_of_ble_eq_true rfl)
  rw [lg_entry_eq]
  generalize (lg_sl ([.ref h0, .int p1]) ++ List.replicate (2 - (lg_sl ([.ref h0, .int p1])).length) Slot.unset).toArray = ls at hl ⊢
  have hl : lv_has ls 2 [(0, .ref h0), (1, .int p1)] := hl
  refine lv_iload_n hx hb dz_M_box_0 rfl (lv_at hl 1 rfl) ?_
  refine lv_i2l (v := p1.toInt64) hx hb dz_M_box_1 rfl ?_
  refine lv_lconst (v := 1) hx hb dz_M_box_2 (by decide) ?_
  refine lv_ldc2 (v := 5) hx hb hown (hz _ zi_278) dz_M_box_3 ?_
  refine vp_callSi (va_Run.run (va_runS (As := [.long p1.toInt64, .long 1, .long 5]) (rest := []) ⟨hx, hb, hml, hown, hz⟩ (ct_M_within l dC dI ci cj cz p1.toInt64 1 5) (cwS 3 hz (zw_gS zi_279 zi_280 zi_35 zi_281) rfl rfl rfl (by decide +kernel) ⟨Nat.le_of_ble_eq_true rfl, Nat.le_of_ble_eq_true rfl⟩) (zw_preR zw_ns_ok (ws := []) (fun k q h => by simp at h) hK hN) rfl rfl hl.1 rfl (lv_room (Nat.le_of_ble_eq_true rfl)) dz_M_box_6 ⟨Nat.le_of_ble_eq_true rfl, Nat.le_of_ble_eq_true rfl⟩)) (fun r_1 hr_1 => ?_)
  have hr_1 : r_1 = zm_within p1.toInt64 1 5 := hr_1
  subst hr_1
  refine lv_if_ne (tgt := 15) hx hb dz_M_box_9 (by decide) (fun c_2 => ?_) (fun c_2 => ?_)
  · refine lv_aload_n hx hb dz_M_box_15 rfl (lv_at hl 0 rfl) ?_
    refine va_get (D := (dC, dI)) (ci := 3) (v := .int (nI (zm_nb M))) (C := RzM) (T := TzM) (N := 18) hx hb hz inzM hown hK hP 0 rfl rfl 0 (by decide) (hz _ zi_236) (fun _ h9 => h9) rfl dz_M_box_16 ?_
    refine lv_bipush (v := 60) hx hb dz_M_box_19 (by decide) ?_
    refine lv_icmp_ne (tgt := 27) hx hb dz_M_box_21 (by decide) (fun c_3 => ?_) (fun c_3 => ?_)
    · have h60 := zm_lt60 hok c_3
      refine lv_aload_n hx hb dz_M_box_27 rfl (lv_at hl 0 rfl) ?_
      refine lv_dup hx hb dz_M_box_28 rfl ?_
      refine va_get (D := (dC, dI)) (ci := 3) (v := .int (nI (zm_nb M))) (C := RzM) (T := TzM) (N := 18) hx hb hz inzM hown hK hP 0 rfl rfl 0 (by decide) (hz _ zi_236) (fun _ h9 => h9) rfl dz_M_box_29 ?_
      refine lv_iconst (v := 1) hx hb dz_M_box_32 (by decide) ?_
      refine lv_iadd hx hb dz_M_box_33 ?_
      refine W.eq (g2 := F0 m 34 ls [.int (nI (zm_nb M + 1)), .ref h0]) (congrArg (fun z => F0 m 34 ls (.int z :: [.ref h0])) (nI_1 _)) ?_
      refine va_put (D := (dC, dI)) (ci := 3) (v := .int (nI (zm_nb M + 1))) (ty := .int) (C := RzM) (T := TzM) (N := 18) hx hb hz inzM tyzM tyzM_ok nmzM hown hK hP hD hS 0 rfl rfl 0 (by decide) (hz _ zi_236) (fun _ h9 => h9) rfl (by decide +kernel) rfl rfl (Nat.le_of_ble_eq_true rfl) dz_M_box_34 (fun H locs hP hD hS => ?_)
      obtain ⟨S_4, eS_4⟩ : ∃ z, z = zm_snb M (zm_nb M + 1) := ⟨_, rfl⟩
      have hP : va_P (dC, dI) vwCl (zm_W ci cj cz h0 a S_4) H := by rw [eS_4]; exact hP
      have hD : va_D A (zm_W ci cj cz h0 a S_4) := by rw [eS_4]; exact hD
      refine lv_aload_n hx hb dz_M_box_37 rfl (lv_at hl 0 rfl) ?_
      refine va_get (D := (dC, dI)) (ci := 3) (v := .ref a.1) (C := RzM) (T := TzM) (N := 18) hx hb hz inzM hown hK hP 0 rfl rfl 1 (by decide) (hz _ zi_237) (fun _ h9 => h9) rfl dz_M_box_38 ?_
      refine lv_aload_n hx hb dz_M_box_41 rfl (lv_at hl 0 rfl) ?_
      refine va_get (D := (dC, dI)) (ci := 3) (v := .int (nI (zm_nb S_4))) (C := RzM) (T := TzM) (N := 18) hx hb hz inzM hown hK hP 0 rfl rfl 0 (by decide) (hz _ zi_236) (fun _ h9 => h9) rfl dz_M_box_42 ?_
      refine lv_iload_n hx hb dz_M_box_45 rfl (lv_at hl 1 rfl) ?_
      have hin_5 : vp_in (nI (zm_nb S_4)) 61 := vp_in_nI (by rw [eS_4]; show zm_nb M + 1 < 61; omega) (by decide)
      refine va_iast hx hb hK hP hD hS 1 0 rfl rfl hin_5 dz_M_box_46 (fun H locs hP hD hS => ?_)
      rw [show (nI (zm_nb S_4)).toNatClampNeg = (zm_nb S_4) from nI_clamp (by rw [eS_4]; show zm_nb M + 1 < 2 ^ 31; omega)] at hP hD
      obtain ⟨S_6, eS_6⟩ : ∃ z, z = zm_ssz S_4 (upd (zm_sz S_4) (zm_nb S_4) p1) := ⟨_, rfl⟩
      have hP : va_P (dC, dI) vwCl (zm_W ci cj cz h0 a S_6) H := by rw [eS_6]; exact hP
      have hD : va_D A (zm_W ci cj cz h0 a S_6) := by rw [eS_6]; exact hD
      refine lv_aload_n hx hb dz_M_box_47 rfl (lv_at hl 0 rfl) ?_
      refine va_get (D := (dC, dI)) (ci := 3) (v := .ref a.2.2.2.2.2.1) (C := RzM) (T := TzM) (N := 18) hx hb hz inzM hown hK hP 0 rfl rfl 6 (by decide) (hz _ zi_242) (fun _ h9 => h9) rfl dz_M_box_48 ?_
      refine lv_aload_n hx hb dz_M_box_51 rfl (lv_at hl 0 rfl) ?_
      refine va_get (D := (dC, dI)) (ci := 3) (v := .int (nI (zm_nb S_6))) (C := RzM) (T := TzM) (N := 18) hx hb hz inzM hown hK hP 0 rfl rfl 0 (by decide) (hz _ zi_236) (fun _ h9 => h9) rfl dz_M_box_52 ?_
      refine lv_iconst (v := -1) hx hb dz_M_box_55 (by decide) ?_
      have hin_7 : vp_in (nI (zm_nb S_6)) 61 := vp_in_nI (by rw [eS_6, eS_4]; show zm_nb M + 1 < 61; omega) (by decide)
      refine va_iast hx hb hK hP hD hS 6 0 rfl rfl hin_7 dz_M_box_56 (fun H locs hP hD hS => ?_)
      rw [show (nI (zm_nb S_6)).toNatClampNeg = (zm_nb S_6) from nI_clamp (by rw [eS_6, eS_4]; show zm_nb M + 1 < 2 ^ 31; omega)] at hP hD
      obtain ⟨S_8, eS_8⟩ : ∃ z, z = zm_sco S_6 (upd (zm_co S_6) (zm_nb S_6) (-1)) := ⟨_, rfl⟩
      have hP : va_P (dC, dI) vwCl (zm_W ci cj cz h0 a S_8) H := by rw [eS_8]; exact hP
      have hD : va_D A (zm_W ci cj cz h0 a S_8) := by rw [eS_8]; exact hD
      refine lv_aload_n hx hb dz_M_box_57 rfl (lv_at hl 0 rfl) ?_
      refine va_get (D := (dC, dI)) (ci := 3) (v := .int (nI (zm_nb S_8))) (C := RzM) (T := TzM) (N := 18) hx hb hz inzM hown hK hP 0 rfl rfl 0 (by decide) (hz _ zi_236) (fun _ h9 => h9) rfl dz_M_box_58 ?_
      have hE_9 : zm_box M p1 = (nI (zm_nb S_8), S_8) := by subst eS_4 eS_6 eS_8; simp only [zm_box, if_neg c_2, if_neg c_3]
      exact W.iret (v := nI (zm_nb S_8)) hx hb hr (fun t ht hW => ⟨⟨_, (), rfl, by show nI (zm_nb S_8) = (zm_box M p1).1; rw [hE_9], by show va_P (dC, dI) vwCl (zm_W ci cj cz h0 a ((zm_box M p1).2)) t.heap; rw [ht, hE_9]; exact hP, by show va_D A (zm_W ci cj cz h0 a ((zm_box M p1).2)); rw [hE_9]; exact hD⟩, hS.F ht⟩) hS.2.2 dz_M_box_61
    · refine lv_bipush (v := -14) hx hb dz_M_box_24 (by decide) ?_
      have hE_10 : zm_box M p1 = ((-14), M) := by simp only [zm_box, if_neg c_2, if_pos c_3]
      exact W.iret (v := (-14)) hx hb hr (fun t ht hW => ⟨⟨_, (), rfl, by show (-14) = (zm_box M p1).1; rw [hE_10], by show va_P (dC, dI) vwCl (zm_W ci cj cz h0 a ((zm_box M p1).2)) t.heap; rw [ht, hE_10]; exact hP, by show va_D A (zm_W ci cj cz h0 a ((zm_box M p1).2)); rw [hE_10]; exact hD⟩, hS.F ht⟩) hS.2.2 dz_M_box_26
  · refine lv_bipush (v := -12) hx hb dz_M_box_12 (by decide) ?_
    have hE_11 : zm_box M p1 = ((-12), M) := by simp only [zm_box, if_pos c_2]
    exact W.iret (v := (-12)) hx hb hr (fun t ht hW => ⟨⟨_, (), rfl, by show (-12) = (zm_box M p1).1; rw [hE_11], by show va_P (dC, dI) vwCl (zm_W ci cj cz h0 a ((zm_box M p1).2)) t.heap; rw [ht, hE_11]; exact hP, by show va_D A (zm_W ci cj cz h0 a ((zm_box M p1).2)); rw [hE_11]; exact hD⟩, hS.F ht⟩) hS.2.2 dz_M_box_14
set_option maxHeartbeats 4000000 in
set_option maxRecDepth 100000 in
theorem ct_M_tape (l : Launch) (dC : Nat → ClassId) (dI : Nat → Nat → Nat) (ci cj cz : ClassId) (h0 : Nat) (a : zm_Ad) (M : zm_S) (hok : zm_ok M) (sz : Nat) (p1 : Int32) : Met l yz_M_tape wz_M_tape (zw_room 1 0 0) (zw_U zw_ns (dC, dI) vwCl (zm_tys ci cj cz) [.ref h0, .int p1] (zm_W ci cj cz h0 a M) sz) (va_Qi (fun (r : Int32) (_ : Unit) => r = (zm_tape M p1).1) (fun (_ : Unit) (t : State) => va_P (dC, dI) vwCl (zm_W ci cj cz h0 a ((zm_tape M p1).2)) t.heap ∧ va_D (va_A (zm_W ci cj cz h0 a M) sz) (zm_W ci cj cz h0 a ((zm_tape M p1).2))) (va_A (zm_W ci cj cz h0 a M) sz)) 0 0 (va_A (zm_W ci cj cz h0 a M) sz) := by
  refine Met.ofW (cc := cz_M_tape) (maxL := 2) (ret := (some .int)) (by decide) rfl ?_
  intro p e s m args below meth c s₁ B hml hv
  obtain ⟨rfl, hsz, hP, hK, hD0, hN⟩ := hv
  have hx := B.exec
  have hb := B.bytes
  have hr := B.returns
  have hts := atoms_spec (ws := wz_M_tape) B.pre
  have hz : ∀ w ∈ zw_T, w.before ([.ref h0, .int p1] : List Value).toArray s = true := fun w h => hts w (List.mem_cons_of_mem _ h)
  have hown : s.vm.findClass RzM = some m.cls := findClass_of_methodNamed B.named
  have hlocks := B.notSynchronized
  have hok0 := hok
  subst hsz
  have hD := hD0.self (sz := s.heap.size)
  generalize hAe : va_A (zm_W ci cj cz h0 a M) s.heap.size = A at hD ⊢
  have hA : ∀ q : Nat, s.heap.size ≤ q → A q := fun q h => by rw [← hAe]; exact Or.inr h
  have hS : va_S A s.heap s.heap [] := va_S.rf
  have hl := lv_entry ([.ref h0, .int p1]) (n := 2) (Nat.le_of_ble_eq_true rfl)
  rw [lg_entry_eq]
  generalize (lg_sl ([.ref h0, .int p1]) ++ List.replicate (2 - (lg_sl ([.ref h0, .int p1])).length) Slot.unset).toArray = ls at hl ⊢
  have hl : lv_has ls 2 [(0, .ref h0), (1, .int p1)] := hl
  refine lv_iload_n hx hb dz_M_tape_0 rfl (lv_at hl 1 rfl) ?_
  refine lv_i2l (v := p1.toInt64) hx hb dz_M_tape_1 rfl ?_
  refine lv_lconst (v := 0) hx hb dz_M_tape_2 (by decide) ?_
  refine lv_ldc2 (v := 999999) hx hb hown (hz _ zi_286) dz_M_tape_3 ?_
  refine vp_callSi (va_Run.run (va_runS (As := [.long p1.toInt64, .long 0, .long 999999]) (rest := []) ⟨hx, hb, hml, hown, hz⟩ (ct_M_within l dC dI ci cj cz p1.toInt64 0 999999) (cwS 3 hz (zw_gS zi_279 zi_280 zi_35 zi_281) rfl rfl rfl (by decide +kernel) ⟨Nat.le_of_ble_eq_true rfl, Nat.le_of_ble_eq_true rfl⟩) (zw_preR zw_ns_ok (ws := []) (fun k q h => by simp at h) hK hN) rfl rfl hl.1 rfl (lv_room (Nat.le_of_ble_eq_true rfl)) dz_M_tape_6 ⟨Nat.le_of_ble_eq_true rfl, Nat.le_of_ble_eq_true rfl⟩)) (fun r_1 hr_1 => ?_)
  have hr_1 : r_1 = zm_within p1.toInt64 0 999999 := hr_1
  subst hr_1
  refine lv_if_ne (tgt := 15) hx hb dz_M_tape_9 (by decide) (fun c_2 => ?_) (fun c_2 => ?_)
  · refine lv_aload_n hx hb dz_M_tape_15 rfl (lv_at hl 0 rfl) ?_
    refine va_get (D := (dC, dI)) (ci := 3) (v := .int (nI (zm_tn M))) (C := RzM) (T := TzM) (N := 18) hx hb hz inzM hown hK hP 0 rfl rfl 14 (by decide) (hz _ zi_250) (fun _ h9 => h9) rfl dz_M_tape_16 ?_
    refine lv_sipush (v := 200) hx hb dz_M_tape_19 (by decide) ?_
    refine lv_icmp_ne (tgt := 28) hx hb dz_M_tape_22 (by decide) (fun c_3 => ?_) (fun c_3 => ?_)
    · refine lv_aload_n hx hb dz_M_tape_28 rfl (lv_at hl 0 rfl) ?_
      refine va_get (D := (dC, dI)) (ci := 3) (v := .ref a.2.2.2.2.2.2.2.2.2.1) (C := RzM) (T := TzM) (N := 18) hx hb hz inzM hown hK hP 0 rfl rfl 15 (by decide) (hz _ zi_251) (fun _ h9 => h9) rfl dz_M_tape_29 ?_
      refine lv_aload_n hx hb dz_M_tape_32 rfl (lv_at hl 0 rfl) ?_
      refine va_get (D := (dC, dI)) (ci := 3) (v := .int (nI (zm_tn M))) (C := RzM) (T := TzM) (N := 18) hx hb hz inzM hown hK hP 0 rfl rfl 14 (by decide) (hz _ zi_250) (fun _ h9 => h9) rfl dz_M_tape_33 ?_
      refine lv_iload_n hx hb dz_M_tape_36 rfl (lv_at hl 1 rfl) ?_
      have hin_4 : vp_in (nI (zm_tn M)) 200 := vp_in_nI (zm_lt200 hok c_3) (by decide)
      refine va_iast hx hb hK hP hD hS 10 0 rfl rfl hin_4 dz_M_tape_37 (fun H locs hP hD hS => ?_)
      rw [show (nI (zm_tn M)).toNatClampNeg = (zm_tn M) from nI_clamp (by have := hok.1; have := hok.2.1; have := hok.2.2; omega)] at hP hD
      obtain ⟨S_5, eS_5⟩ : ∃ z, z = zm_stp M (upd (zm_tp M) (zm_tn M) p1) := ⟨_, rfl⟩
      have hP : va_P (dC, dI) vwCl (zm_W ci cj cz h0 a S_5) H := by rw [eS_5]; exact hP
      have hD : va_D A (zm_W ci cj cz h0 a S_5) := by rw [eS_5]; exact hD
      have hok : zm_ok S_5 := by rw [eS_5]; exact hok
      refine lv_aload_n hx hb dz_M_tape_38 rfl (lv_at hl 0 rfl) ?_
      refine lv_dup hx hb dz_M_tape_39 rfl ?_
      refine va_get (D := (dC, dI)) (ci := 3) (v := .int (nI (zm_tn S_5))) (C := RzM) (T := TzM) (N := 18) hx hb hz inzM hown hK hP 0 rfl rfl 14 (by decide) (hz _ zi_250) (fun _ h9 => h9) rfl dz_M_tape_40 ?_
      refine lv_iconst (v := 1) hx hb dz_M_tape_43 (by decide) ?_
      refine lv_iadd hx hb dz_M_tape_44 ?_
      refine W.eq (g2 := F0 m 45 ls [.int (nI (zm_tn S_5 + 1)), .ref h0]) (congrArg (fun z => F0 m 45 ls (.int z :: [.ref h0])) (nI_1 _)) ?_
      refine va_put (D := (dC, dI)) (ci := 3) (v := .int (nI (zm_tn S_5 + 1))) (ty := .int) (C := RzM) (T := TzM) (N := 18) hx hb hz inzM tyzM tyzM_ok nmzM hown hK hP hD hS 0 rfl rfl 14 (by decide) (hz _ zi_250) (fun _ h9 => h9) rfl (by decide +kernel) rfl rfl (Nat.le_of_ble_eq_true rfl) dz_M_tape_45 (fun H locs hP hD hS => ?_)
      obtain ⟨S_6, eS_6⟩ : ∃ z, z = zm_stn S_5 (zm_tn S_5 + 1) := ⟨_, rfl⟩
      have hP : va_P (dC, dI) vwCl (zm_W ci cj cz h0 a S_6) H := by rw [eS_6]; exact hP
      have hD : va_D A (zm_W ci cj cz h0 a S_6) := by rw [eS_6]; exact hD
      refine lv_aload_n hx hb dz_M_tape_48 rfl (lv_at hl 0 rfl) ?_
      refine va_get (D := (dC, dI)) (ci := 3) (v := .int (nI (zm_tn S_6))) (C := RzM) (T := TzM) (N := 18) hx hb hz inzM hown hK hP 0 rfl rfl 14 (by decide) (hz _ zi_250) (fun _ h9 => h9) rfl dz_M_tape_49 ?_
      have hE_7 : zm_tape M p1 = (nI (zm_tn S_6), S_6) := by subst eS_5 eS_6; simp only [zm_tape, if_neg c_2, if_neg c_3]
      exact W.iret (v := nI (zm_tn S_6)) hx hb hr (fun t ht hW => ⟨⟨_, (), rfl, by show nI (zm_tn S_6) = (zm_tape M p1).1; rw [hE_7], by show va_P (dC, dI) vwCl (zm_W ci cj cz h0 a ((zm_tape M p1).2)) t.heap; rw [ht, hE_7]; exact hP, by show va_D A (zm_W ci cj cz h0 a ((zm_tape M p1).2)); rw [hE_7]; exact hD⟩, hS.F ht⟩) hS.2.2 dz_M_tape_52
    · refine lv_bipush (v := -14) hx hb dz_M_tape_25 (by decide) ?_
      have hE_8 : zm_tape M p1 = ((-14), M) := by simp only [zm_tape, if_neg c_2, if_pos c_3]
      exact W.iret (v := (-14)) hx hb hr (fun t ht hW => ⟨⟨_, (), rfl, by show (-14) = (zm_tape M p1).1; rw [hE_8], by show va_P (dC, dI) vwCl (zm_W ci cj cz h0 a ((zm_tape M p1).2)) t.heap; rw [ht, hE_8]; exact hP, by show va_D A (zm_W ci cj cz h0 a ((zm_tape M p1).2)); rw [hE_8]; exact hD⟩, hS.F ht⟩) hS.2.2 dz_M_tape_27
  · refine lv_bipush (v := -12) hx hb dz_M_tape_12 (by decide) ?_
    have hE_9 : zm_tape M p1 = ((-12), M) := by simp only [zm_tape, if_pos c_2]
    exact W.iret (v := (-12)) hx hb hr (fun t ht hW => ⟨⟨_, (), rfl, by show (-12) = (zm_tape M p1).1; rw [hE_9], by show va_P (dC, dI) vwCl (zm_W ci cj cz h0 a ((zm_tape M p1).2)) t.heap; rw [ht, hE_9]; exact hP, by show va_D A (zm_W ci cj cz h0 a ((zm_tape M p1).2)); rw [hE_9]; exact hD⟩, hS.F ht⟩) hS.2.2 dz_M_tape_14
set_option maxHeartbeats 4000000 in
set_option maxRecDepth 100000 in
theorem ct_M_open (l : Launch) (dC : Nat → ClassId) (dI : Nat → Nat → Nat) (ci cj cz : ClassId) (h0 : Nat) (a : zm_Ad) (M : zm_S) (hok : zm_ok M) (sz : Nat) (p1 : Int32) (p2 : Int32) (h1 : vp_in p1 61) : Met l yz_M_open wz_M_open (zw_room 0 0 0) (zw_U zw_ns (dC, dI) vwCl (zm_tys ci cj cz) [.ref h0, .int p1, .int p2] (zm_W ci cj cz h0 a M) sz) (va_Qv (fun _ : Unit => True) (fun (_ : Unit) (t : State) => va_P (dC, dI) vwCl (zm_W ci cj cz h0 a (zm_open M p1 p2)) t.heap ∧ va_D (va_A (zm_W ci cj cz h0 a M) sz) (zm_W ci cj cz h0 a (zm_open M p1 p2))) (va_A (zm_W ci cj cz h0 a M) sz)) 0 0 (va_A (zm_W ci cj cz h0 a M) sz) := by
  refine Met.ofW (cc := cz_M_open) (maxL := 3) (ret := none) (by decide) rfl ?_
  intro p e s m args below meth c s₁ B hml hv
  obtain ⟨rfl, hsz, hP, hK, hD0, hN⟩ := hv
  have hx := B.exec
  have hb := B.bytes
  have hr := B.returns
  have hts := atoms_spec (ws := wz_M_open) B.pre
  have hz : ∀ w ∈ zw_T, w.before ([.ref h0, .int p1, .int p2] : List Value).toArray s = true := fun w h => hts w (List.mem_cons_of_mem _ h)
  have hown : s.vm.findClass RzM = some m.cls := findClass_of_methodNamed B.named
  have hlocks := B.notSynchronized
  have hok0 := hok
  subst hsz
  have hD := hD0.self (sz := s.heap.size)
  generalize hAe : va_A (zm_W ci cj cz h0 a M) s.heap.size = A at hD ⊢
  have hA : ∀ q : Nat, s.heap.size ≤ q → A q := fun q h => by rw [← hAe]; exact Or.inr h
  have hS : va_S A s.heap s.heap [] := va_S.rf
  have hl := lv_entry ([.ref h0, .int p1, .int p2]) (n := 3) (Nat.le_of_ble_eq_true rfl)
  rw [lg_entry_eq]
  generalize (lg_sl ([.ref h0, .int p1, .int p2]) ++ List.replicate (3 - (lg_sl ([.ref h0, .int p1, .int p2])).length) Slot.unset).toArray = ls at hl ⊢
  have hl : lv_has ls 3 [(0, .ref h0), (1, .int p1), (2, .int p2)] := hl
  refine lv_aload_n hx hb dz_M_open_0 rfl (lv_at hl 0 rfl) ?_
  refine va_get (D := (dC, dI)) (ci := 3) (v := .ref a.2.1) (C := RzM) (T := TzM) (N := 18) hx hb hz inzM hown hK hP 0 rfl rfl 2 (by decide) (hz _ zi_238) (fun _ h9 => h9) rfl dz_M_open_1 ?_
  refine lv_iload_n hx hb dz_M_open_4 rfl (lv_at hl 1 rfl) ?_
  refine lv_iload_n hx hb dz_M_open_5 rfl (lv_at hl 2 rfl) ?_
  have hin_1 : vp_in p1 61 := h1
  refine va_iast hx hb hK hP hD hS 2 0 rfl rfl hin_1 dz_M_open_6 (fun H locs hP hD hS => ?_)
  obtain ⟨S_2, eS_2⟩ : ∃ z, z = zm_sdr M (upd (zm_dr M) p1.toNatClampNeg p2) := ⟨_, rfl⟩
  have hP : va_P (dC, dI) vwCl (zm_W ci cj cz h0 a S_2) H := by rw [eS_2]; exact hP
  have hD : va_D A (zm_W ci cj cz h0 a S_2) := by rw [eS_2]; exact hD
  have hok : zm_ok S_2 := by rw [eS_2]; exact hok
  refine lv_aload_n hx hb dz_M_open_7 rfl (lv_at hl 0 rfl) ?_
  refine va_get (D := (dC, dI)) (ci := 3) (v := .ref a.2.2.1) (C := RzM) (T := TzM) (N := 18) hx hb hz inzM hown hK hP 0 rfl rfl 3 (by decide) (hz _ zi_239) (fun _ h9 => h9) rfl dz_M_open_8 ?_
  refine lv_iload_n hx hb dz_M_open_11 rfl (lv_at hl 1 rfl) ?_
  refine lv_aload_n hx hb dz_M_open_12 rfl (lv_at hl 0 rfl) ?_
  refine va_get (D := (dC, dI)) (ci := 3) (v := .long (zm_T S_2)) (C := RzM) (T := TzM) (N := 18) hx hb hz inzM hown hK hP 0 rfl rfl 10 (by decide) (hz _ zi_246) (fun _ h9 => h9) rfl dz_M_open_13 ?_
  have hin_3 : vp_in p1 61 := h1
  refine va_last hx hb hK hP hD hS 3 1 rfl rfl hin_3 dz_M_open_16 (fun H locs hP hD hS => ?_)
  obtain ⟨S_4, eS_4⟩ : ∃ z, z = zm_ssi S_2 (vp_updL (zm_si S_2) p1.toNatClampNeg (zm_T S_2)) := ⟨_, rfl⟩
  have hP : va_P (dC, dI) vwCl (zm_W ci cj cz h0 a S_4) H := by rw [eS_4]; exact hP
  have hD : va_D A (zm_W ci cj cz h0 a S_4) := by rw [eS_4]; exact hD
  have hok : zm_ok S_4 := by rw [eS_4]; exact hok
  refine lv_aload_n hx hb dz_M_open_17 rfl (lv_at hl 0 rfl) ?_
  refine va_get (D := (dC, dI)) (ci := 3) (v := .ref a.2.2.2.1) (C := RzM) (T := TzM) (N := 18) hx hb hz inzM hown hK hP 0 rfl rfl 4 (by decide) (hz _ zi_240) (fun _ h9 => h9) rfl dz_M_open_18 ?_
  refine lv_iload_n hx hb dz_M_open_21 rfl (lv_at hl 1 rfl) ?_
  refine lv_iconst (v := 0) hx hb dz_M_open_22 (by decide) ?_
  have hin_5 : vp_in p1 61 := h1
  refine va_zast hx hb hK hP hD hS 4 2 rfl rfl hin_5 dz_M_open_23 (fun H locs hP hD hS => ?_)
  rw [zm_n0] at hP hD
  obtain ⟨S_6, eS_6⟩ : ∃ z, z = zm_sto S_4 (upd (zm_to S_4) p1.toNatClampNeg 0) := ⟨_, rfl⟩
  have hP : va_P (dC, dI) vwCl (zm_W ci cj cz h0 a S_6) H := by rw [eS_6]; exact hP
  have hD : va_D A (zm_W ci cj cz h0 a S_6) := by rw [eS_6]; exact hD
  have hok : zm_ok S_6 := by rw [eS_6]; exact hok
  have hE_7 : zm_open M p1 p2 = S_6 := by subst eS_2 eS_4 eS_6; simp only [zm_open]
  exact W.vret hx hb hr (fun t ht hW => ⟨⟨(), rfl, trivial, by show va_P (dC, dI) vwCl (zm_W ci cj cz h0 a (zm_open M p1 p2)) t.heap; rw [ht, hE_7]; exact hP, by show va_D A (zm_W ci cj cz h0 a (zm_open M p1 p2)); rw [hE_7]; exact hD⟩, hS.F ht⟩) hS.2.2 dz_M_open_24
set_option maxHeartbeats 4000000 in
set_option maxRecDepth 100000 in
theorem ct_M_out (l : Launch) (dC : Nat → ClassId) (dI : Nat → Nat → Nat) (ci cj cz : ClassId) (h0 : Nat) (a : zm_Ad) (M : zm_S) (hok : zm_ok M) (sz : Nat) (p1 : Int32) (h1 : vp_in p1 61) : Met l yz_M_out wz_M_out (zw_room 0 0 0) (zw_U zw_ns (dC, dI) vwCl (zm_tys ci cj cz) [.ref h0, .int p1] (zm_W ci cj cz h0 a M) sz) (va_Qi (fun (r : Int32) (_ : Unit) => r = (zm_out M p1).1) (fun (_ : Unit) (t : State) => va_P (dC, dI) vwCl (zm_W ci cj cz h0 a ((zm_out M p1).2)) t.heap ∧ va_D (va_A (zm_W ci cj cz h0 a M) sz) (zm_W ci cj cz h0 a ((zm_out M p1).2))) (va_A (zm_W ci cj cz h0 a M) sz)) 0 0 (va_A (zm_W ci cj cz h0 a M) sz) := by
  refine Met.ofW (cc := cz_M_out) (maxL := 3) (ret := (some .int)) (by decide) rfl ?_
  intro p e s m args below meth c s₁ B hml hv
  obtain ⟨rfl, hsz, hP, hK, hD0, hN⟩ := hv
  have hx := B.exec
  have hb := B.bytes
  have hr := B.returns
  have hts := atoms_spec (ws := wz_M_out) B.pre
  have hz : ∀ w ∈ zw_T, w.before ([.ref h0, .int p1] : List Value).toArray s = true := fun w h => hts w (List.mem_cons_of_mem _ h)
  have hown : s.vm.findClass RzM = some m.cls := findClass_of_methodNamed B.named
  have hlocks := B.notSynchronized
  have hok0 := hok
  subst hsz
  have hD := hD0.self (sz := s.heap.size)
  generalize hAe : va_A (zm_W ci cj cz h0 a M) s.heap.size = A at hD ⊢
  have hA : ∀ q : Nat, s.heap.size ≤ q → A q := fun q h => by rw [← hAe]; exact Or.inr h
  have hS : va_S A s.heap s.heap [] := va_S.rf
  have hl := lv_entry ([.ref h0, .int p1]) (n := 3) (Nat.le_of_ble_eq_true rfl)
  rw [lg_entry_eq]
  generalize (lg_sl ([.ref h0, .int p1]) ++ List.replicate (3 - (lg_sl ([.ref h0, .int p1])).length) Slot.unset).toArray = ls at hl ⊢
  have hl : lv_has ls 3 [(0, .ref h0), (1, .int p1)] := hl
  refine lv_aload_n hx hb dz_M_out_0 rfl (lv_at hl 0 rfl) ?_
  refine va_get (D := (dC, dI)) (ci := 3) (v := .ref a.2.2.2.2.1) (C := RzM) (T := TzM) (N := 18) hx hb hz inzM hown hK hP 0 rfl rfl 5 (by decide) (hz _ zi_241) (fun _ h9 => h9) rfl dz_M_out_1 ?_
  refine lv_iload_n hx hb dz_M_out_4 rfl (lv_at hl 1 rfl) ?_
  have hin_1 : vp_in p1 61 := h1
  refine va_iald hx hb hK hP 5 0 rfl rfl hin_1 dz_M_out_5 ?_
  refine lv_istore_n (lv' := [(2, .int (zm_it M p1.toNatClampNeg)), (0, .ref h0), (1, .int p1)]) hx hb dz_M_out_6 rfl hl (by decide) rfl (fun ls hl => ?_)
  refine lv_aload_n hx hb dz_M_out_7 rfl (lv_at hl 1 rfl) ?_
  refine va_get (D := (dC, dI)) (ci := 3) (v := .ref a.2.2.2.2.1) (C := RzM) (T := TzM) (N := 18) hx hb hz inzM hown hK hP 0 rfl rfl 5 (by decide) (hz _ zi_241) (fun _ h9 => h9) rfl dz_M_out_8 ?_
  refine lv_iload_n hx hb dz_M_out_11 rfl (lv_at hl 2 rfl) ?_
  refine lv_iconst (v := 0) hx hb dz_M_out_12 (by decide) ?_
  have hin_2 : vp_in p1 61 := h1
  refine va_iast hx hb hK hP hD hS 5 0 rfl rfl hin_2 dz_M_out_13 (fun H locs hP hD hS => ?_)
  obtain ⟨S_3, eS_3⟩ : ∃ z, z = zm_sit M (upd (zm_it M) p1.toNatClampNeg 0) := ⟨_, rfl⟩
  have hP : va_P (dC, dI) vwCl (zm_W ci cj cz h0 a S_3) H := by rw [eS_3]; exact hP
  have hD : va_D A (zm_W ci cj cz h0 a S_3) := by rw [eS_3]; exact hD
  have hok : zm_ok S_3 := by rw [eS_3]; exact hok
  refine lv_aload_n hx hb dz_M_out_14 rfl (lv_at hl 1 rfl) ?_
  refine va_get (D := (dC, dI)) (ci := 3) (v := .ref a.2.2.2.2.2.1) (C := RzM) (T := TzM) (N := 18) hx hb hz inzM hown hK hP 0 rfl rfl 6 (by decide) (hz _ zi_242) (fun _ h9 => h9) rfl dz_M_out_15 ?_
  refine lv_iload_n hx hb dz_M_out_18 rfl (lv_at hl 2 rfl) ?_
  refine lv_iconst (v := -1) hx hb dz_M_out_19 (by decide) ?_
  have hin_4 : vp_in p1 61 := h1
  refine va_iast hx hb hK hP hD hS 6 0 rfl rfl hin_4 dz_M_out_20 (fun H locs hP hD hS => ?_)
  obtain ⟨S_5, eS_5⟩ : ∃ z, z = zm_sco S_3 (upd (zm_co S_3) p1.toNatClampNeg (-1)) := ⟨_, rfl⟩
  have hP : va_P (dC, dI) vwCl (zm_W ci cj cz h0 a S_5) H := by rw [eS_5]; exact hP
  have hD : va_D A (zm_W ci cj cz h0 a S_5) := by rw [eS_5]; exact hD
  have hok : zm_ok S_5 := by rw [eS_5]; exact hok
  refine lv_aload_n hx hb dz_M_out_21 rfl (lv_at hl 1 rfl) ?_
  refine va_get (D := (dC, dI)) (ci := 3) (v := .ref a.2.2.2.2.2.2.2.1) (C := RzM) (T := TzM) (N := 18) hx hb hz inzM hown hK hP 0 rfl rfl 8 (by decide) (hz _ zi_244) (fun _ h9 => h9) rfl dz_M_out_22 ?_
  refine lv_iload_n hx hb dz_M_out_25 rfl (lv_at hl 2 rfl) ?_
  refine lv_iconst (v := 0) hx hb dz_M_out_26 (by decide) ?_
  have hin_6 : vp_in p1 61 := h1
  refine va_zast hx hb hK hP hD hS 8 2 rfl rfl hin_6 dz_M_out_27 (fun H locs hP hD hS => ?_)
  rw [zm_n0] at hP hD
  obtain ⟨S_7, eS_7⟩ : ∃ z, z = zm_sla S_5 (upd (zm_la S_5) p1.toNatClampNeg 0) := ⟨_, rfl⟩
  have hP : va_P (dC, dI) vwCl (zm_W ci cj cz h0 a S_7) H := by rw [eS_7]; exact hP
  have hD : va_D A (zm_W ci cj cz h0 a S_7) := by rw [eS_7]; exact hD
  have hok : zm_ok S_7 := by rw [eS_7]; exact hok
  refine lv_iload_n hx hb dz_M_out_28 rfl (lv_at hl 0 rfl) ?_
  have hE_8 : zm_out M p1 = (zm_it M p1.toNatClampNeg, S_7) := by subst eS_3 eS_5 eS_7; simp only [zm_out]
  exact W.iret (v := zm_it M p1.toNatClampNeg) hx hb hr (fun t ht hW => ⟨⟨_, (), rfl, by show zm_it M p1.toNatClampNeg = (zm_out M p1).1; rw [hE_8], by show va_P (dC, dI) vwCl (zm_W ci cj cz h0 a ((zm_out M p1).2)) t.heap; rw [ht, hE_8]; exact hP, by show va_D A (zm_W ci cj cz h0 a ((zm_out M p1).2)); rw [hE_8]; exact hD⟩, hS.F ht⟩) hS.2.2 dz_M_out_29
set_option maxHeartbeats 4000000 in
set_option maxRecDepth 100000 in
theorem ct_M_isCode (l : Launch) (dC : Nat → ClassId) (dI : Nat → Nat → Nat) (ci cj cz : ClassId) (h0 : Nat) (a : zm_Ad) (M : zm_S) (hok : zm_ok M) (p1 : Int32) : Met l yz_M_isCode wz_M_isCode (zw_room 0 0 0) (zw_R zw_ns (dC, dI) vwCl (zm_tys ci cj cz) [.ref h0, .int p1] (zm_W ci cj cz h0 a M)) (vp_Si (fun r => r = zm_isCode M p1)) 0 0 (fun _ => False) := by
  refine Met.ofW (cc := cz_M_isCode) (maxL := 3) (ret := (some .boolean)) (by decide) rfl ?_
  intro p e s m args below meth c s₁ B hml hv
  obtain ⟨rfl, hP, hK, hN⟩ := hv
  have hx := B.exec
  have hb := B.bytes
  have hr := B.returns
  have hts := atoms_spec (ws := wz_M_isCode) B.pre
  have hz : ∀ w ∈ zw_T, w.before ([.ref h0, .int p1] : List Value).toArray s = true := fun w h => hts w (List.mem_cons_of_mem _ h)
  have hown : s.vm.findClass RzM = some m.cls := findClass_of_methodNamed B.named
  have hlocks := B.notSynchronized
  have hok0 := hok
  have hl := lv_entry ([.ref h0, .int p1]) (n := 3) (Nat.le_of_ble_eq_true rfl)
  rw [lg_entry_eq]
  generalize (lg_sl ([.ref h0, .int p1]) ++ List.replicate (3 - (lg_sl ([.ref h0, .int p1])).length) Slot.unset).toArray = ls at hl ⊢
  have hl : lv_has ls 3 [(0, .ref h0), (1, .int p1)] := hl
  refine lv_iconst (v := nI (0 + 1)) hx hb dz_M_isCode_0 (by decide) ?_
  refine lv_istore_n (lv' := [(2, .int (nI (0 + 1))), (0, .ref h0), (1, .int p1)]) hx hb dz_M_isCode_1 rfl hl (by decide) rfl (fun ls hl => ?_)
  have loop : ∀ (k j : Nat) (ls : Array Slot), j + k = zm_nb M → zm_ic M p1 (zm_nb M) 0 = zm_ic M p1 k j → lv_has ls 3 [(2, .int (nI (j + 1))), (0, .ref h0), (1, .int p1)] → W p l e (headSpec wz_M_isCode (zw_room 0 0 0)).room s m ([.ref h0, .int p1] : List Value).toArray below meth c s.heap [] 0 0 (MQ below (vp_Si (fun r => r = zm_isCode M p1)) ([.ref h0, .int p1] : List Value).toArray s 0 0 (fun _ => False)) (F0 m 2 ls []) := by
    intro k
    induction k with
    | zero =>
      intro j ls hjk hinv hl
      refine lv_iload_n hx hb dz_M_isCode_2 rfl (lv_at hl 0 rfl) ?_
      refine lv_aload_n hx hb dz_M_isCode_3 rfl (lv_at hl 1 rfl) ?_
      refine va_get (D := (dC, dI)) (ci := 3) (v := .int (nI (zm_nb M))) (C := RzM) (T := TzM) (N := 18) hx hb hz inzM hown hK hP 0 rfl rfl 0 (by decide) (hz _ zi_236) (fun _ h9 => h9) rfl dz_M_isCode_4 ?_
      refine lv_icmp_gt (tgt := 28) hx hb dz_M_isCode_7 (by decide) (fun c_1 => ?_) (fun c_1 => ?_)
      · refine lv_iconst (v := 0) hx hb dz_M_isCode_28 (by decide) ?_
        exact W.zret (v := 0) (ty := .boolean) hx hb hr rfl (fun t ht hW => ⟨_, rfl, by rw [zm_isCode, hinv]; rfl, ht⟩) (fun _ h => by cases h) dz_M_isCode_29
      · exact absurd (nI_lt (by omega) (by have := hok.1; omega)) c_1
    | succ k ih =>
      intro j ls hjk hinv hl
      have hj : j < zm_nb M := by omega
      refine lv_iload_n hx hb dz_M_isCode_2 rfl (lv_at hl 0 rfl) ?_
      refine lv_aload_n hx hb dz_M_isCode_3 rfl (lv_at hl 1 rfl) ?_
      refine va_get (D := (dC, dI)) (ci := 3) (v := .int (nI (zm_nb M))) (C := RzM) (T := TzM) (N := 18) hx hb hz inzM hown hK hP 0 rfl rfl 0 (by decide) (hz _ zi_236) (fun _ h9 => h9) rfl dz_M_isCode_4 ?_
      refine lv_icmp_gt (tgt := 28) hx hb dz_M_isCode_7 (by decide) (fun c_2 => ?_) (fun c_2 => ?_)
      · exact absurd c_2 (nI_nlt (by omega) (by have := hok.1; omega))
      · refine lv_aload_n hx hb dz_M_isCode_10 rfl (lv_at hl 1 rfl) ?_
        refine va_get (D := (dC, dI)) (ci := 3) (v := .ref a.2.2.2.2.2.1) (C := RzM) (T := TzM) (N := 18) hx hb hz inzM hown hK hP 0 rfl rfl 6 (by decide) (hz _ zi_242) (fun _ h9 => h9) rfl dz_M_isCode_11 ?_
        refine lv_iload_n hx hb dz_M_isCode_14 rfl (lv_at hl 0 rfl) ?_
        have hin_3 : vp_in (nI (j + 1)) 61 := vp_in_nI (by have := hok.1; omega) (by decide)
        refine va_iald hx hb hK hP 6 0 rfl rfl hin_3 dz_M_isCode_15 ?_
        refine W.eq (g2 := F0 m 16 ls [.int (zm_co M (j + 1))]) (congrArg (fun z => F0 m 16 ls (.int ((zm_co M) z) :: [])) (nI_clamp (by have := hok.1; have := hok.2.1; have := hok.2.2; omega))) ?_
        refine lv_iload_n hx hb dz_M_isCode_16 rfl (lv_at hl 2 rfl) ?_
        refine lv_icmp_ne (tgt := 22) hx hb dz_M_isCode_17 (by decide) (fun c_4 => ?_) (fun c_4 => ?_)
        · refine lv_iinc (v := nI (j + 1 + 1)) (lv' := [(2, .int (nI (j + 1 + 1))), (0, .ref h0), (1, .int p1)]) hx hb dz_M_isCode_22 hl (k := 0) rfl (nI_1 _) (by decide) rfl (fun ls hl => ?_)
          refine lv_goto (tgt := 2) hx hb dz_M_isCode_25 (by decide) ?_
          exact ih (j + 1) ls (by omega) (by rw [hinv]; simp only [zm_ic, if_neg c_4]) (lv_sub hl [0, 1, 2] rfl)
        · refine lv_iconst (v := 1) hx hb dz_M_isCode_20 (by decide) ?_
          exact W.zret (v := 1) (ty := .boolean) hx hb hr rfl (fun t ht hW => ⟨_, rfl, by rw [zm_isCode, hinv]; simp only [zm_ic, if_pos c_4], ht⟩) (fun _ h => by cases h) dz_M_isCode_21
  exact loop (zm_nb M) 0 ls (by omega) rfl (lv_sub hl [0, 1, 2] rfl)
end
section
set_option maxHeartbeats 4000000 in
set_option maxRecDepth 100000 in
theorem ct_M_pass (l : Launch) (dC : Nat → ClassId) (dI : Nat → Nat → Nat) (ci cj cz : ClassId) (h0 : Nat) (a : zm_Ad) (M : zm_S) (hok : zm_ok M) (sz : Nat) (p1 : Int64) : Met l yz_M_pass wz_M_pass (zw_room 0 0 0) (zw_U zw_ns (dC, dI) vwCl (zm_tys ci cj cz) [.ref h0, .long p1] (zm_W ci cj cz h0 a M) sz) (va_Qv (fun _ : Unit => True) (fun (_ : Unit) (t : State) => va_P (dC, dI) vwCl (zm_W ci cj cz h0 a (zm_pass M p1)) t.heap ∧ va_D (va_A (zm_W ci cj cz h0 a M) sz) (zm_W ci cj cz h0 a (zm_pass M p1))) (va_A (zm_W ci cj cz h0 a M) sz)) 0 0 (va_A (zm_W ci cj cz h0 a M) sz) := by
  refine Met.ofW (cc := cz_M_pass) (maxL := 5) (ret := none) (by decide) rfl ?_
  intro p e s m args below meth c s₁ B hml hv
  obtain ⟨rfl, hsz, hP, hK, hD0, hN⟩ := hv
  have hx := B.exec
  have hb := B.bytes
  have hr := B.returns
  have hts := atoms_spec (ws := wz_M_pass) B.pre
  have hz : ∀ w ∈ zw_T, w.before ([.ref h0, .long p1] : List Value).toArray s = true := fun w h => hts w (List.mem_cons_of_mem _ h)
  have hown : s.vm.findClass RzM = some m.cls := findClass_of_methodNamed B.named
  have hlocks := B.notSynchronized
  have hok0 := hok
  subst hsz
  have hD := hD0.self (sz := s.heap.size)
  generalize hAe : va_A (zm_W ci cj cz h0 a M) s.heap.size = A at hD ⊢
  have hA : ∀ q : Nat, s.heap.size ≤ q → A q := fun q h => by rw [← hAe]; exact Or.inr h
  have hS : va_S A s.heap s.heap [] := va_S.rf
  have hl := lv_entry ([.ref h0, .long p1]) (n := 5) (Nat.le_of_ble_eq_true rfl)
  rw [lg_entry_eq]
  generalize (lg_sl ([.ref h0, .long p1]) ++ List.replicate (5 - (lg_sl ([.ref h0, .long p1])).length) Slot.unset).toArray = ls at hl ⊢
  have hl : lv_has ls 5 [(0, .ref h0), (1, .long p1)] := hl
  refine lv_aload_n hx hb dz_M_pass_0 rfl (lv_at hl 0 rfl) ?_
  refine lv_lload_n hx hb dz_M_pass_1 rfl (lv_at hl 1 rfl) ?_
  refine va_put (D := (dC, dI)) (ci := 3) (v := .long p1) (ty := .long) (C := RzM) (T := TzM) (N := 18) hx hb hz inzM tyzM tyzM_ok nmzM hown hK hP hD hS 0 rfl rfl 10 (by decide) (hz _ zi_246) (fun _ h9 => h9) rfl (by decide +kernel) rfl rfl (Nat.le_of_ble_eq_true rfl) dz_M_pass_2 (fun H locs hP hD hS => ?_)
  obtain ⟨S_1, eS_1⟩ : ∃ z, z = zm_sT M p1 := ⟨_, rfl⟩
  have hP : va_P (dC, dI) vwCl (zm_W ci cj cz h0 a S_1) H := by rw [eS_1]; exact hP
  have hD : va_D A (zm_W ci cj cz h0 a S_1) := by rw [eS_1]; exact hD
  have hok : zm_ok S_1 := by rw [eS_1]; exact hok
  refine lv_iconst (v := nI (0 + 1)) hx hb dz_M_pass_5 (by decide) ?_
  refine lv_istore_n (lv' := [(3, .int (nI (0 + 1))), (0, .ref h0), (1, .long p1)]) hx hb dz_M_pass_6 rfl hl (by decide) rfl (fun ls hl => ?_)
  have loop : ∀ (k j : Nat) (S1 : zm_S) (H : Heap) (locs : List Loc) (ls : Array Slot), j + k = zm_nb S1 → zm_ok S1 → zm_pass M p1 = zm_lp p1 k j S1 → va_P (dC, dI) vwCl (zm_W ci cj cz h0 a S1) H → va_D A (zm_W ci cj cz h0 a S1) → va_S A s.heap H locs → lv_has ls 5 [(3, .int (nI (j + 1))), (0, .ref h0), (1, .long p1)] → W p l e (headSpec wz_M_pass (zw_room 0 0 0)).room s m ([.ref h0, .long p1] : List Value).toArray below meth c H locs 0 0 (MQ below (va_Qv (fun _ : Unit => True) (fun (_ : Unit) (t : State) => va_P (dC, dI) vwCl (zm_W ci cj cz h0 a (zm_pass M p1)) t.heap ∧ va_D A (zm_W ci cj cz h0 a (zm_pass M p1))) A) ([.ref h0, .long p1] : List Value).toArray s 0 0 A) (F0 m 7 ls []) := by
    intro k
    induction k with
    | zero =>
      intro j S1 H locs ls hjk hok hinv hP hD hS hl
      refine lv_iload_n hx hb dz_M_pass_7 rfl (lv_at hl 0 rfl) ?_
      refine lv_aload_n hx hb dz_M_pass_8 rfl (lv_at hl 1 rfl) ?_
      refine va_get (D := (dC, dI)) (ci := 3) (v := .int (nI (zm_nb S1))) (C := RzM) (T := TzM) (N := 18) hx hb hz inzM hown hK hP 0 rfl rfl 0 (by decide) (hz _ zi_236) (fun _ h9 => h9) rfl dz_M_pass_9 ?_
      refine lv_icmp_gt (tgt := 202) hx hb dz_M_pass_12 (by decide) (fun c_2 => ?_) (fun c_2 => ?_)
      · have hE_3 : zm_pass M p1 = S1 := by rw [hinv]; rfl
        exact W.vret hx hb hr (fun t ht hW => ⟨⟨(), rfl, trivial, by show va_P (dC, dI) vwCl (zm_W ci cj cz h0 a (zm_pass M p1)) t.heap; rw [ht, hE_3]; exact hP, by show va_D A (zm_W ci cj cz h0 a (zm_pass M p1)); rw [hE_3]; exact hD⟩, hS.F ht⟩) hS.2.2 dz_M_pass_202
      · exact absurd (nI_lt (by omega) (by have := hok.1; omega)) c_2
    | succ k ih =>
      intro j S1 H locs ls hjk hok hinv hP hD hS hl
      have hj : j < zm_nb S1 := by omega
      have seg3 : ∀ (S2 : zm_S) (H : Heap) (locs : List Loc) (ls : Array Slot), j + (k + 1) = zm_nb S2 → zm_ok S2 → zm_pass M p1 = zm_lp p1 k (j + 1) (zm_p3 p1 j S2) → va_P (dC, dI) vwCl (zm_W ci cj cz h0 a S2) H → va_D A (zm_W ci cj cz h0 a S2) → va_S A s.heap H locs → lv_has ls 5 [(3, .int (nI (j + 1))), (0, .ref h0), (1, .long p1)] → W p l e (headSpec wz_M_pass (zw_room 0 0 0)).room s m ([.ref h0, .long p1] : List Value).toArray below meth c H locs 0 0 (MQ below (va_Qv (fun _ : Unit => True) (fun (_ : Unit) (t : State) => va_P (dC, dI) vwCl (zm_W ci cj cz h0 a (zm_pass M p1)) t.heap ∧ va_D A (zm_W ci cj cz h0 a (zm_pass M p1))) A) ([.ref h0, .long p1] : List Value).toArray s 0 0 A) (F0 m 146 ls []) := by
        intro S2 H locs ls hjk hok hinv hP hD hS hl
        have hj : j < zm_nb S2 := by omega
        refine lv_aload_n hx hb dz_M_pass_146 rfl (lv_at hl 1 rfl) ?_
        refine va_get (D := (dC, dI)) (ci := 3) (v := .ref a.2.2.2.2.2.1) (C := RzM) (T := TzM) (N := 18) hx hb hz inzM hown hK hP 0 rfl rfl 6 (by decide) (hz _ zi_242) (fun _ h9 => h9) rfl dz_M_pass_147 ?_
        refine lv_iload_n hx hb dz_M_pass_150 rfl (lv_at hl 0 rfl) ?_
        have hin_4 : vp_in (nI (j + 1)) 61 := vp_in_nI (by have := hok.1; omega) (by decide)
        refine va_iald hx hb hK hP 6 0 rfl rfl hin_4 dz_M_pass_151 ?_
        refine W.eq (g2 := F0 m 152 ls [.int (zm_co S2 (j + 1))]) (congrArg (fun z => F0 m 152 ls (.int ((zm_co S2) z) :: [])) (nI_clamp (by have := hok.1; have := hok.2.1; have := hok.2.2; omega))) ?_
        refine lv_if_lt (tgt := 196) hx hb dz_M_pass_152 (by decide) (fun c_5 => ?_) (fun c_5 => ?_)
        · refine lv_iinc (v := nI (j + 1 + 1)) (lv' := [(3, .int (nI (j + 1 + 1))), (0, .ref h0), (1, .long p1)]) hx hb dz_M_pass_196 hl (k := 0) rfl (nI_1 _) (by decide) rfl (fun ls hl => ?_)
          refine lv_goto (tgt := 7) hx hb dz_M_pass_199 (by decide) ?_
          exact ih (j + 1) S2 H locs ls (by omega) hok (by rw [hinv]; simp only [zm_p3, if_pos c_5]) hP hD hS (lv_sub hl [0, 1, 2] rfl)
        · refine lv_aload_n hx hb dz_M_pass_155 rfl (lv_at hl 1 rfl) ?_
          refine va_get (D := (dC, dI)) (ci := 3) (v := .ref a.2.2.2.2.2.2.2.1) (C := RzM) (T := TzM) (N := 18) hx hb hz inzM hown hK hP 0 rfl rfl 8 (by decide) (hz _ zi_244) (fun _ h9 => h9) rfl dz_M_pass_156 ?_
          refine lv_iload_n hx hb dz_M_pass_159 rfl (lv_at hl 0 rfl) ?_
          have hin_6 : vp_in (nI (j + 1)) 61 := vp_in_nI (by have := hok.1; omega) (by decide)
          refine va_zald hx hb hK hP 8 2 rfl rfl hin_6 dz_M_pass_160 ?_
          refine W.eq (g2 := F0 m 161 ls [.int (zm_la S2 (j + 1))]) (congrArg (fun z => F0 m 161 ls (.int ((zm_la S2) z) :: [])) (nI_clamp (by have := hok.1; have := hok.2.1; have := hok.2.2; omega))) ?_
          refine lv_if_ne (tgt := 196) hx hb dz_M_pass_161 (by decide) (fun c_7 => ?_) (fun c_7 => ?_)
          · refine lv_iinc (v := nI (j + 1 + 1)) (lv' := [(3, .int (nI (j + 1 + 1))), (0, .ref h0), (1, .long p1)]) hx hb dz_M_pass_196 hl (k := 0) rfl (nI_1 _) (by decide) rfl (fun ls hl => ?_)
            refine lv_goto (tgt := 7) hx hb dz_M_pass_199 (by decide) ?_
            exact ih (j + 1) S2 H locs ls (by omega) hok (by rw [hinv]; simp only [zm_p3, if_neg c_5, if_neg c_7]) hP hD hS (lv_sub hl [0, 1, 2] rfl)
          · refine lv_lload_n hx hb dz_M_pass_164 rfl (lv_at hl 2 rfl) ?_
            refine lv_aload_n hx hb dz_M_pass_165 rfl (lv_at hl 1 rfl) ?_
            refine va_get (D := (dC, dI)) (ci := 3) (v := .ref a.2.2.2.2.2.2.1) (C := RzM) (T := TzM) (N := 18) hx hb hz inzM hown hK hP 0 rfl rfl 7 (by decide) (hz _ zi_243) (fun _ h9 => h9) rfl dz_M_pass_166 ?_
            refine lv_iload_n hx hb dz_M_pass_169 rfl (lv_at hl 0 rfl) ?_
            have hin_8 : vp_in (nI (j + 1)) 61 := vp_in_nI (by have := hok.1; omega) (by decide)
            refine va_lald hx hb hK hP 7 1 rfl rfl hin_8 dz_M_pass_170 ?_
            refine W.eq (g2 := F0 m 171 ls [.long (zm_li S2 (j + 1)), .long p1]) (congrArg (fun z => F0 m 171 ls (.long ((zm_li S2) z) :: [.long p1])) (nI_clamp (by have := hok.1; have := hok.2.1; have := hok.2.2; omega))) ?_
            refine lv_lsub hx hb dz_M_pass_171 ?_
            refine lv_ldc2 (v := 604800) hx hb hown (hz _ zi_307) dz_M_pass_172 ?_
            refine W.lcmp hx hb dz_M_pass_175 ?_
            refine lv_if_lt (tgt := 196) hx hb dz_M_pass_176 (by decide) (fun c_9 => ?_) (fun c_9 => ?_)
            · refine lv_iinc (v := nI (j + 1 + 1)) (lv' := [(3, .int (nI (j + 1 + 1))), (0, .ref h0), (1, .long p1)]) hx hb dz_M_pass_196 hl (k := 0) rfl (nI_1 _) (by decide) rfl (fun ls hl => ?_)
              refine lv_goto (tgt := 7) hx hb dz_M_pass_199 (by decide) ?_
              exact ih (j + 1) S2 H locs ls (by omega) hok (by rw [hinv]; simp only [zm_p3, if_neg c_5, if_pos c_7, if_pos c_9]) hP hD hS (lv_sub hl [0, 1, 2] rfl)
            · refine lv_aload_n hx hb dz_M_pass_179 rfl (lv_at hl 1 rfl) ?_
              refine va_get (D := (dC, dI)) (ci := 3) (v := .ref a.2.2.2.2.2.2.2.1) (C := RzM) (T := TzM) (N := 18) hx hb hz inzM hown hK hP 0 rfl rfl 8 (by decide) (hz _ zi_244) (fun _ h9 => h9) rfl dz_M_pass_180 ?_
              refine lv_iload_n hx hb dz_M_pass_183 rfl (lv_at hl 0 rfl) ?_
              refine lv_iconst (v := 1) hx hb dz_M_pass_184 (by decide) ?_
              have hin_10 : vp_in (nI (j + 1)) 61 := vp_in_nI (by have := hok.1; omega) (by decide)
              refine va_zast hx hb hK hP hD hS 8 2 rfl rfl hin_10 dz_M_pass_185 (fun H locs hP hD hS => ?_)
              rw [show (nI (j + 1)).toNatClampNeg = (j + 1) from nI_clamp (by have := hok.1; have := hok.2.1; have := hok.2.2; omega)] at hP hD
              rw [zm_n1] at hP hD
              obtain ⟨S_11, eS_11⟩ : ∃ z, z = zm_sla S2 (upd (zm_la S2) (j + 1) 1) := ⟨_, rfl⟩
              have hP : va_P (dC, dI) vwCl (zm_W ci cj cz h0 a S_11) H := by rw [eS_11]; exact hP
              have hD : va_D A (zm_W ci cj cz h0 a S_11) := by rw [eS_11]; exact hD
              have hok : zm_ok S_11 := by rw [eS_11]; exact hok
              have hj : j < zm_nb S_11 := by rw [eS_11]; exact hj
              have hjk : j + (k + 1) = zm_nb S_11 := by rw [eS_11]; exact hjk
              refine lv_aload_n hx hb dz_M_pass_186 rfl (lv_at hl 1 rfl) ?_
              refine lv_dup hx hb dz_M_pass_187 rfl ?_
              refine va_get (D := (dC, dI)) (ci := 3) (v := .int (zm_A S_11)) (C := RzM) (T := TzM) (N := 18) hx hb hz inzM hown hK hP 0 rfl rfl 11 (by decide) (hz _ zi_247) (fun _ h9 => h9) rfl dz_M_pass_188 ?_
              refine lv_iconst (v := 1) hx hb dz_M_pass_191 (by decide) ?_
              refine lv_iadd hx hb dz_M_pass_192 ?_
              refine va_put (D := (dC, dI)) (ci := 3) (v := .int ((zm_A S_11) + 1)) (ty := .int) (C := RzM) (T := TzM) (N := 18) hx hb hz inzM tyzM tyzM_ok nmzM hown hK hP hD hS 0 rfl rfl 11 (by decide) (hz _ zi_247) (fun _ h9 => h9) rfl (by decide +kernel) rfl rfl (Nat.le_of_ble_eq_true rfl) dz_M_pass_193 (fun H locs hP hD hS => ?_)
              obtain ⟨S_12, eS_12⟩ : ∃ z, z = zm_sA S_11 ((zm_A S_11) + 1) := ⟨_, rfl⟩
              have hP : va_P (dC, dI) vwCl (zm_W ci cj cz h0 a S_12) H := by rw [eS_12]; exact hP
              have hD : va_D A (zm_W ci cj cz h0 a S_12) := by rw [eS_12]; exact hD
              have hok : zm_ok S_12 := by rw [eS_12]; exact hok
              have hj : j < zm_nb S_12 := by rw [eS_12]; exact hj
              have hjk : j + (k + 1) = zm_nb S_12 := by rw [eS_12]; exact hjk
              refine lv_iinc (v := nI (j + 1 + 1)) (lv' := [(3, .int (nI (j + 1 + 1))), (0, .ref h0), (1, .long p1)]) hx hb dz_M_pass_196 hl (k := 0) rfl (nI_1 _) (by decide) rfl (fun ls hl => ?_)
              refine lv_goto (tgt := 7) hx hb dz_M_pass_199 (by decide) ?_
              exact ih (j + 1) S_12 H locs ls (by omega) hok (by subst eS_11 eS_12; rw [hinv]; simp only [zm_p3, if_neg c_5, if_pos c_7, if_neg c_9]) hP hD hS (lv_sub hl [0, 1, 2] rfl)
      have seg2 : ∀ (S2 : zm_S) (H : Heap) (locs : List Loc) (ls : Array Slot), j + (k + 1) = zm_nb S2 → zm_ok S2 → zm_pass M p1 = zm_lp p1 k (j + 1) (zm_p3 p1 j (zm_p2 p1 j S2)) → va_P (dC, dI) vwCl (zm_W ci cj cz h0 a S2) H → va_D A (zm_W ci cj cz h0 a S2) → va_S A s.heap H locs → lv_has ls 5 [(3, .int (nI (j + 1))), (0, .ref h0), (1, .long p1)] → W p l e (headSpec wz_M_pass (zw_room 0 0 0)).room s m ([.ref h0, .long p1] : List Value).toArray below meth c H locs 0 0 (MQ below (va_Qv (fun _ : Unit => True) (fun (_ : Unit) (t : State) => va_P (dC, dI) vwCl (zm_W ci cj cz h0 a (zm_pass M p1)) t.heap ∧ va_D A (zm_W ci cj cz h0 a (zm_pass M p1))) A) ([.ref h0, .long p1] : List Value).toArray s 0 0 A) (F0 m 73 ls []) := by
        intro S2 H locs ls hjk hok hinv hP hD hS hl
        have hj : j < zm_nb S2 := by omega
        refine lv_aload_n hx hb dz_M_pass_73 rfl (lv_at hl 1 rfl) ?_
        refine va_get (D := (dC, dI)) (ci := 3) (v := .ref a.2.1) (C := RzM) (T := TzM) (N := 18) hx hb hz inzM hown hK hP 0 rfl rfl 2 (by decide) (hz _ zi_238) (fun _ h9 => h9) rfl dz_M_pass_74 ?_
        refine lv_iload_n hx hb dz_M_pass_77 rfl (lv_at hl 0 rfl) ?_
        have hin_13 : vp_in (nI (j + 1)) 61 := vp_in_nI (by have := hok.1; omega) (by decide)
        refine va_iald hx hb hK hP 2 0 rfl rfl hin_13 dz_M_pass_78 ?_
        refine W.eq (g2 := F0 m 79 ls [.int (zm_dr S2 (j + 1))]) (congrArg (fun z => F0 m 79 ls (.int ((zm_dr S2) z) :: [])) (nI_clamp (by have := hok.1; have := hok.2.1; have := hok.2.2; omega))) ?_
        refine lv_iconst (v := 1) hx hb dz_M_pass_79 (by decide) ?_
        refine lv_icmp_eq (tgt := 93) hx hb dz_M_pass_80 (by decide) (fun c_14 => ?_) (fun c_14 => ?_)
        · refine lv_iconst (v := 1) hx hb dz_M_pass_93 (by decide) ?_
          refine lv_goto (tgt := 98) hx hb dz_M_pass_94 (by decide) ?_
          refine lv_istore (lv' := [(4, .int 1), (3, .int (nI (j + 1))), (0, .ref h0), (1, .long p1)]) hx hb dz_M_pass_98 hl (by decide) rfl (fun ls hl => ?_)
          refine lv_iload hx hb dz_M_pass_100 (lv_at hl 0 rfl) ?_
          refine lv_if_eq (tgt := 146) hx hb dz_M_pass_102 (by decide) (fun c_15 => ?_) (fun c_15 => ?_)
          · exact absurd c_15 (by decide)
          · refine lv_aload_n hx hb dz_M_pass_105 rfl (lv_at hl 2 rfl) ?_
            refine va_get (D := (dC, dI)) (ci := 3) (v := .ref a.2.2.2.1) (C := RzM) (T := TzM) (N := 18) hx hb hz inzM hown hK hP 0 rfl rfl 4 (by decide) (hz _ zi_240) (fun _ h9 => h9) rfl dz_M_pass_106 ?_
            refine lv_iload_n hx hb dz_M_pass_109 rfl (lv_at hl 1 rfl) ?_
            have hin_16 : vp_in (nI (j + 1)) 61 := vp_in_nI (by have := hok.1; omega) (by decide)
            refine va_zald hx hb hK hP 4 2 rfl rfl hin_16 dz_M_pass_110 ?_
            refine W.eq (g2 := F0 m 111 ls [.int (zm_to S2 (j + 1))]) (congrArg (fun z => F0 m 111 ls (.int ((zm_to S2) z) :: [])) (nI_clamp (by have := hok.1; have := hok.2.1; have := hok.2.2; omega))) ?_
            refine lv_if_ne (tgt := 146) hx hb dz_M_pass_111 (by decide) (fun c_17 => ?_) (fun c_17 => ?_)
            · exact seg3 S2 H locs ls hjk hok (by rw [hinv]; simp only [zm_p2, if_pos c_14, if_neg c_17]) hP hD hS (lv_sub hl [1, 2, 3] rfl)
            · refine lv_lload_n hx hb dz_M_pass_114 rfl (lv_at hl 3 rfl) ?_
              refine lv_aload_n hx hb dz_M_pass_115 rfl (lv_at hl 2 rfl) ?_
              refine va_get (D := (dC, dI)) (ci := 3) (v := .ref a.2.2.1) (C := RzM) (T := TzM) (N := 18) hx hb hz inzM hown hK hP 0 rfl rfl 3 (by decide) (hz _ zi_239) (fun _ h9 => h9) rfl dz_M_pass_116 ?_
              refine lv_iload_n hx hb dz_M_pass_119 rfl (lv_at hl 1 rfl) ?_
              have hin_18 : vp_in (nI (j + 1)) 61 := vp_in_nI (by have := hok.1; omega) (by decide)
              refine va_lald hx hb hK hP 3 1 rfl rfl hin_18 dz_M_pass_120 ?_
              refine W.eq (g2 := F0 m 121 ls [.long (zm_si S2 (j + 1)), .long p1]) (congrArg (fun z => F0 m 121 ls (.long ((zm_si S2) z) :: [.long p1])) (nI_clamp (by have := hok.1; have := hok.2.1; have := hok.2.2; omega))) ?_
              refine lv_lsub hx hb dz_M_pass_121 ?_
              refine lv_ldc2 (v := 120) hx hb hown (hz _ zi_306) dz_M_pass_122 ?_
              refine W.lcmp hx hb dz_M_pass_125 ?_
              refine lv_if_lt (tgt := 146) hx hb dz_M_pass_126 (by decide) (fun c_19 => ?_) (fun c_19 => ?_)
              · exact seg3 S2 H locs ls hjk hok (by rw [hinv]; simp only [zm_p2, if_pos c_14, if_pos c_17, if_pos c_19]) hP hD hS (lv_sub hl [1, 2, 3] rfl)
              · refine lv_aload_n hx hb dz_M_pass_129 rfl (lv_at hl 2 rfl) ?_
                refine va_get (D := (dC, dI)) (ci := 3) (v := .ref a.2.2.2.1) (C := RzM) (T := TzM) (N := 18) hx hb hz inzM hown hK hP 0 rfl rfl 4 (by decide) (hz _ zi_240) (fun _ h9 => h9) rfl dz_M_pass_130 ?_
                refine lv_iload_n hx hb dz_M_pass_133 rfl (lv_at hl 1 rfl) ?_
                refine lv_iconst (v := 1) hx hb dz_M_pass_134 (by decide) ?_
                have hin_20 : vp_in (nI (j + 1)) 61 := vp_in_nI (by have := hok.1; omega) (by decide)
                refine va_zast hx hb hK hP hD hS 4 2 rfl rfl hin_20 dz_M_pass_135 (fun H locs hP hD hS => ?_)
                rw [show (nI (j + 1)).toNatClampNeg = (j + 1) from nI_clamp (by have := hok.1; have := hok.2.1; have := hok.2.2; omega)] at hP hD
                rw [zm_n1] at hP hD
                obtain ⟨S_21, eS_21⟩ : ∃ z, z = zm_sto S2 (upd (zm_to S2) (j + 1) 1) := ⟨_, rfl⟩
                have hP : va_P (dC, dI) vwCl (zm_W ci cj cz h0 a S_21) H := by rw [eS_21]; exact hP
                have hD : va_D A (zm_W ci cj cz h0 a S_21) := by rw [eS_21]; exact hD
                have hok : zm_ok S_21 := by rw [eS_21]; exact hok
                have hj : j < zm_nb S_21 := by rw [eS_21]; exact hj
                have hjk : j + (k + 1) = zm_nb S_21 := by rw [eS_21]; exact hjk
                refine lv_aload_n hx hb dz_M_pass_136 rfl (lv_at hl 2 rfl) ?_
                refine lv_dup hx hb dz_M_pass_137 rfl ?_
                refine va_get (D := (dC, dI)) (ci := 3) (v := .int (zm_A S_21)) (C := RzM) (T := TzM) (N := 18) hx hb hz inzM hown hK hP 0 rfl rfl 11 (by decide) (hz _ zi_247) (fun _ h9 => h9) rfl dz_M_pass_138 ?_
                refine lv_iconst (v := 1) hx hb dz_M_pass_141 (by decide) ?_
                refine lv_iadd hx hb dz_M_pass_142 ?_
                refine va_put (D := (dC, dI)) (ci := 3) (v := .int ((zm_A S_21) + 1)) (ty := .int) (C := RzM) (T := TzM) (N := 18) hx hb hz inzM tyzM tyzM_ok nmzM hown hK hP hD hS 0 rfl rfl 11 (by decide) (hz _ zi_247) (fun _ h9 => h9) rfl (by decide +kernel) rfl rfl (Nat.le_of_ble_eq_true rfl) dz_M_pass_143 (fun H locs hP hD hS => ?_)
                obtain ⟨S_22, eS_22⟩ : ∃ z, z = zm_sA S_21 ((zm_A S_21) + 1) := ⟨_, rfl⟩
                have hP : va_P (dC, dI) vwCl (zm_W ci cj cz h0 a S_22) H := by rw [eS_22]; exact hP
                have hD : va_D A (zm_W ci cj cz h0 a S_22) := by rw [eS_22]; exact hD
                have hok : zm_ok S_22 := by rw [eS_22]; exact hok
                have hj : j < zm_nb S_22 := by rw [eS_22]; exact hj
                have hjk : j + (k + 1) = zm_nb S_22 := by rw [eS_22]; exact hjk
                exact seg3 S_22 H locs ls hjk hok (by subst eS_21 eS_22; rw [hinv]; simp only [zm_p2, if_pos c_14, if_pos c_17, if_neg c_19]) hP hD hS (lv_sub hl [1, 2, 3] rfl)
        · refine lv_aload_n hx hb dz_M_pass_83 rfl (lv_at hl 1 rfl) ?_
          refine va_get (D := (dC, dI)) (ci := 3) (v := .ref a.2.1) (C := RzM) (T := TzM) (N := 18) hx hb hz inzM hown hK hP 0 rfl rfl 2 (by decide) (hz _ zi_238) (fun _ h9 => h9) rfl dz_M_pass_84 ?_
          refine lv_iload_n hx hb dz_M_pass_87 rfl (lv_at hl 0 rfl) ?_
          have hin_23 : vp_in (nI (j + 1)) 61 := vp_in_nI (by have := hok.1; omega) (by decide)
          refine va_iald hx hb hK hP 2 0 rfl rfl hin_23 dz_M_pass_88 ?_
          refine W.eq (g2 := F0 m 89 ls [.int (zm_dr S2 (j + 1))]) (congrArg (fun z => F0 m 89 ls (.int ((zm_dr S2) z) :: [])) (nI_clamp (by have := hok.1; have := hok.2.1; have := hok.2.2; omega))) ?_
          refine lv_iconst (v := 2) hx hb dz_M_pass_89 (by decide) ?_
          refine lv_icmp_ne (tgt := 97) hx hb dz_M_pass_90 (by decide) (fun c_24 => ?_) (fun c_24 => ?_)
          · refine lv_iconst (v := 0) hx hb dz_M_pass_97 (by decide) ?_
            refine lv_istore (lv' := [(4, .int 0), (3, .int (nI (j + 1))), (0, .ref h0), (1, .long p1)]) hx hb dz_M_pass_98 hl (by decide) rfl (fun ls hl => ?_)
            refine lv_iload hx hb dz_M_pass_100 (lv_at hl 0 rfl) ?_
            refine lv_if_eq (tgt := 146) hx hb dz_M_pass_102 (by decide) (fun c_25 => ?_) (fun c_25 => ?_)
            · exact seg3 S2 H locs ls hjk hok (by rw [hinv]; simp only [zm_p2, if_neg c_14, if_neg c_24]) hP hD hS (lv_sub hl [1, 2, 3] rfl)
            · exact absurd (by decide) c_25
          · refine lv_iconst (v := 1) hx hb dz_M_pass_93 (by decide) ?_
            refine lv_goto (tgt := 98) hx hb dz_M_pass_94 (by decide) ?_
            refine lv_istore (lv' := [(4, .int 1), (3, .int (nI (j + 1))), (0, .ref h0), (1, .long p1)]) hx hb dz_M_pass_98 hl (by decide) rfl (fun ls hl => ?_)
            refine lv_iload hx hb dz_M_pass_100 (lv_at hl 0 rfl) ?_
            refine lv_if_eq (tgt := 146) hx hb dz_M_pass_102 (by decide) (fun c_26 => ?_) (fun c_26 => ?_)
            · exact absurd c_26 (by decide)
            · refine lv_aload_n hx hb dz_M_pass_105 rfl (lv_at hl 2 rfl) ?_
              refine va_get (D := (dC, dI)) (ci := 3) (v := .ref a.2.2.2.1) (C := RzM) (T := TzM) (N := 18) hx hb hz inzM hown hK hP 0 rfl rfl 4 (by decide) (hz _ zi_240) (fun _ h9 => h9) rfl dz_M_pass_106 ?_
              refine lv_iload_n hx hb dz_M_pass_109 rfl (lv_at hl 1 rfl) ?_
              have hin_27 : vp_in (nI (j + 1)) 61 := vp_in_nI (by have := hok.1; omega) (by decide)
              refine va_zald hx hb hK hP 4 2 rfl rfl hin_27 dz_M_pass_110 ?_
              refine W.eq (g2 := F0 m 111 ls [.int (zm_to S2 (j + 1))]) (congrArg (fun z => F0 m 111 ls (.int ((zm_to S2) z) :: [])) (nI_clamp (by have := hok.1; have := hok.2.1; have := hok.2.2; omega))) ?_
              refine lv_if_ne (tgt := 146) hx hb dz_M_pass_111 (by decide) (fun c_28 => ?_) (fun c_28 => ?_)
              · exact seg3 S2 H locs ls hjk hok (by rw [hinv]; simp only [zm_p2, if_neg c_14, if_pos c_24, if_neg c_28]) hP hD hS (lv_sub hl [1, 2, 3] rfl)
              · refine lv_lload_n hx hb dz_M_pass_114 rfl (lv_at hl 3 rfl) ?_
                refine lv_aload_n hx hb dz_M_pass_115 rfl (lv_at hl 2 rfl) ?_
                refine va_get (D := (dC, dI)) (ci := 3) (v := .ref a.2.2.1) (C := RzM) (T := TzM) (N := 18) hx hb hz inzM hown hK hP 0 rfl rfl 3 (by decide) (hz _ zi_239) (fun _ h9 => h9) rfl dz_M_pass_116 ?_
                refine lv_iload_n hx hb dz_M_pass_119 rfl (lv_at hl 1 rfl) ?_
                have hin_29 : vp_in (nI (j + 1)) 61 := vp_in_nI (by have := hok.1; omega) (by decide)
                refine va_lald hx hb hK hP 3 1 rfl rfl hin_29 dz_M_pass_120 ?_
                refine W.eq (g2 := F0 m 121 ls [.long (zm_si S2 (j + 1)), .long p1]) (congrArg (fun z => F0 m 121 ls (.long ((zm_si S2) z) :: [.long p1])) (nI_clamp (by have := hok.1; have := hok.2.1; have := hok.2.2; omega))) ?_
                refine lv_lsub hx hb dz_M_pass_121 ?_
                refine lv_ldc2 (v := 120) hx hb hown (hz _ zi_306) dz_M_pass_122 ?_
                refine W.lcmp hx hb dz_M_pass_125 ?_
                refine lv_if_lt (tgt := 146) hx hb dz_M_pass_126 (by decide) (fun c_30 => ?_) (fun c_30 => ?_)
                · exact seg3 S2 H locs ls hjk hok (by rw [hinv]; simp only [zm_p2, if_neg c_14, if_pos c_24, if_pos c_28, if_pos c_30]) hP hD hS (lv_sub hl [1, 2, 3] rfl)
                · refine lv_aload_n hx hb dz_M_pass_129 rfl (lv_at hl 2 rfl) ?_
                  refine va_get (D := (dC, dI)) (ci := 3) (v := .ref a.2.2.2.1) (C := RzM) (T := TzM) (N := 18) hx hb hz inzM hown hK hP 0 rfl rfl 4 (by decide) (hz _ zi_240) (fun _ h9 => h9) rfl dz_M_pass_130 ?_
                  refine lv_iload_n hx hb dz_M_pass_133 rfl (lv_at hl 1 rfl) ?_
                  refine lv_iconst (v := 1) hx hb dz_M_pass_134 (by decide) ?_
                  have hin_31 : vp_in (nI (j + 1)) 61 := vp_in_nI (by have := hok.1; omega) (by decide)
                  refine va_zast hx hb hK hP hD hS 4 2 rfl rfl hin_31 dz_M_pass_135 (fun H locs hP hD hS => ?_)
                  rw [show (nI (j + 1)).toNatClampNeg = (j + 1) from nI_clamp (by have := hok.1; have := hok.2.1; have := hok.2.2; omega)] at hP hD
                  rw [zm_n1] at hP hD
                  obtain ⟨S_32, eS_32⟩ : ∃ z, z = zm_sto S2 (upd (zm_to S2) (j + 1) 1) := ⟨_, rfl⟩
                  have hP : va_P (dC, dI) vwCl (zm_W ci cj cz h0 a S_32) H := by rw [eS_32]; exact hP
                  have hD : va_D A (zm_W ci cj cz h0 a S_32) := by rw [eS_32]; exact hD
                  have hok : zm_ok S_32 := by rw [eS_32]; exact hok
                  have hj : j < zm_nb S_32 := by rw [eS_32]; exact hj
                  have hjk : j + (k + 1) = zm_nb S_32 := by rw [eS_32]; exact hjk
                  refine lv_aload_n hx hb dz_M_pass_136 rfl (lv_at hl 2 rfl) ?_
                  refine lv_dup hx hb dz_M_pass_137 rfl ?_
                  refine va_get (D := (dC, dI)) (ci := 3) (v := .int (zm_A S_32)) (C := RzM) (T := TzM) (N := 18) hx hb hz inzM hown hK hP 0 rfl rfl 11 (by decide) (hz _ zi_247) (fun _ h9 => h9) rfl dz_M_pass_138 ?_
                  refine lv_iconst (v := 1) hx hb dz_M_pass_141 (by decide) ?_
                  refine lv_iadd hx hb dz_M_pass_142 ?_
                  refine va_put (D := (dC, dI)) (ci := 3) (v := .int ((zm_A S_32) + 1)) (ty := .int) (C := RzM) (T := TzM) (N := 18) hx hb hz inzM tyzM tyzM_ok nmzM hown hK hP hD hS 0 rfl rfl 11 (by decide) (hz _ zi_247) (fun _ h9 => h9) rfl (by decide +kernel) rfl rfl (Nat.le_of_ble_eq_true rfl) dz_M_pass_143 (fun H locs hP hD hS => ?_)
                  obtain ⟨S_33, eS_33⟩ : ∃ z, z = zm_sA S_32 ((zm_A S_32) + 1) := ⟨_, rfl⟩
                  have hP : va_P (dC, dI) vwCl (zm_W ci cj cz h0 a S_33) H := by rw [eS_33]; exact hP
                  have hD : va_D A (zm_W ci cj cz h0 a S_33) := by rw [eS_33]; exact hD
                  have hok : zm_ok S_33 := by rw [eS_33]; exact hok
                  have hj : j < zm_nb S_33 := by rw [eS_33]; exact hj
                  have hjk : j + (k + 1) = zm_nb S_33 := by rw [eS_33]; exact hjk
                  exact seg3 S_33 H locs ls hjk hok (by subst eS_32 eS_33; rw [hinv]; simp only [zm_p2, if_neg c_14, if_pos c_24, if_pos c_28, if_neg c_30]) hP hD hS (lv_sub hl [1, 2, 3] rfl)
      have hinv : zm_pass M p1 = zm_lp p1 k (j + 1) (zm_p3 p1 j (zm_p2 p1 j (zm_p1 p1 j S1))) := hinv
      refine lv_iload_n hx hb dz_M_pass_7 rfl (lv_at hl 0 rfl) ?_
      refine lv_aload_n hx hb dz_M_pass_8 rfl (lv_at hl 1 rfl) ?_
      refine va_get (D := (dC, dI)) (ci := 3) (v := .int (nI (zm_nb S1))) (C := RzM) (T := TzM) (N := 18) hx hb hz inzM hown hK hP 0 rfl rfl 0 (by decide) (hz _ zi_236) (fun _ h9 => h9) rfl dz_M_pass_9 ?_
      refine lv_icmp_gt (tgt := 202) hx hb dz_M_pass_12 (by decide) (fun c_34 => ?_) (fun c_34 => ?_)
      · exact absurd c_34 (nI_nlt (by omega) (by have := hok.1; omega))
      · refine lv_aload_n hx hb dz_M_pass_15 rfl (lv_at hl 1 rfl) ?_
        refine va_get (D := (dC, dI)) (ci := 3) (v := .ref a.2.2.2.2.2.2.2.2.1) (C := RzM) (T := TzM) (N := 18) hx hb hz inzM hown hK hP 0 rfl rfl 9 (by decide) (hz _ zi_245) (fun _ h9 => h9) rfl dz_M_pass_16 ?_
        refine lv_iload_n hx hb dz_M_pass_19 rfl (lv_at hl 0 rfl) ?_
        have hin_35 : vp_in (nI (j + 1)) 61 := vp_in_nI (by have := hok.1; omega) (by decide)
        refine va_lald hx hb hK hP 9 1 rfl rfl hin_35 dz_M_pass_20 ?_
        refine W.eq (g2 := F0 m 21 ls [.long (zm_ke S1 (j + 1))]) (congrArg (fun z => F0 m 21 ls (.long ((zm_ke S1) z) :: [])) (nI_clamp (by have := hok.1; have := hok.2.1; have := hok.2.2; omega))) ?_
        refine lv_lconst (v := 0) hx hb dz_M_pass_21 (by decide) ?_
        refine W.lcmp hx hb dz_M_pass_22 ?_
        refine lv_if_le (tgt := 73) hx hb dz_M_pass_23 (by decide) (fun c_36 => ?_) (fun c_36 => ?_)
        · exact seg2 S1 H locs ls hjk hok (by rw [hinv]; simp only [zm_p1, if_pos c_36]) hP hD hS (lv_sub hl [0, 1, 2] rfl)
        · refine lv_aload_n hx hb dz_M_pass_26 rfl (lv_at hl 1 rfl) ?_
          refine va_get (D := (dC, dI)) (ci := 3) (v := .ref a.2.2.2.2.2.2.2.2.1) (C := RzM) (T := TzM) (N := 18) hx hb hz inzM hown hK hP 0 rfl rfl 9 (by decide) (hz _ zi_245) (fun _ h9 => h9) rfl dz_M_pass_27 ?_
          refine lv_iload_n hx hb dz_M_pass_30 rfl (lv_at hl 0 rfl) ?_
          have hin_37 : vp_in (nI (j + 1)) 61 := vp_in_nI (by have := hok.1; omega) (by decide)
          refine va_lald hx hb hK hP 9 1 rfl rfl hin_37 dz_M_pass_31 ?_
          refine W.eq (g2 := F0 m 32 ls [.long (zm_ke S1 (j + 1))]) (congrArg (fun z => F0 m 32 ls (.long ((zm_ke S1) z) :: [])) (nI_clamp (by have := hok.1; have := hok.2.1; have := hok.2.2; omega))) ?_
          refine lv_lload_n hx hb dz_M_pass_32 rfl (lv_at hl 2 rfl) ?_
          refine W.lcmp hx hb dz_M_pass_33 ?_
          refine lv_if_gt (tgt := 73) hx hb dz_M_pass_34 (by decide) (fun c_38 => ?_) (fun c_38 => ?_)
          · exact seg2 S1 H locs ls hjk hok (by rw [hinv]; simp only [zm_p1, if_neg c_36, if_pos c_38]) hP hD hS (lv_sub hl [0, 1, 2] rfl)
          · refine lv_aload_n hx hb dz_M_pass_37 rfl (lv_at hl 1 rfl) ?_
            refine va_get (D := (dC, dI)) (ci := 3) (v := .ref a.2.2.2.2.2.2.2.2.1) (C := RzM) (T := TzM) (N := 18) hx hb hz inzM hown hK hP 0 rfl rfl 9 (by decide) (hz _ zi_245) (fun _ h9 => h9) rfl dz_M_pass_38 ?_
            refine lv_iload_n hx hb dz_M_pass_41 rfl (lv_at hl 0 rfl) ?_
            refine lv_lconst (v := 0) hx hb dz_M_pass_42 (by decide) ?_
            have hin_39 : vp_in (nI (j + 1)) 61 := vp_in_nI (by have := hok.1; omega) (by decide)
            refine va_last hx hb hK hP hD hS 9 1 rfl rfl hin_39 dz_M_pass_43 (fun H locs hP hD hS => ?_)
            rw [show (nI (j + 1)).toNatClampNeg = (j + 1) from nI_clamp (by have := hok.1; have := hok.2.1; have := hok.2.2; omega)] at hP hD
            obtain ⟨S_40, eS_40⟩ : ∃ z, z = zm_ske S1 (vp_updL (zm_ke S1) (j + 1) 0) := ⟨_, rfl⟩
            have hP : va_P (dC, dI) vwCl (zm_W ci cj cz h0 a S_40) H := by rw [eS_40]; exact hP
            have hD : va_D A (zm_W ci cj cz h0 a S_40) := by rw [eS_40]; exact hD
            have hok : zm_ok S_40 := by rw [eS_40]; exact hok
            have hj : j < zm_nb S_40 := by rw [eS_40]; exact hj
            have hjk : j + (k + 1) = zm_nb S_40 := by rw [eS_40]; exact hjk
            refine lv_aload_n hx hb dz_M_pass_44 rfl (lv_at hl 1 rfl) ?_
            refine va_get (D := (dC, dI)) (ci := 3) (v := .int (nI (zm_fn S_40))) (C := RzM) (T := TzM) (N := 18) hx hb hz inzM hown hK hP 0 rfl rfl 16 (by decide) (hz _ zi_252) (fun _ h9 => h9) rfl dz_M_pass_45 ?_
            refine lv_bipush (v := 100) hx hb dz_M_pass_48 (by decide) ?_
            refine lv_icmp_ge (tgt := 73) hx hb dz_M_pass_50 (by decide) (fun c_41 => ?_) (fun c_41 => ?_)
            · exact seg2 S_40 H locs ls hjk hok (by subst eS_40; rw [hinv]; simp only [zm_p1, if_neg c_36, if_neg c_38, if_pos c_41]) hP hD hS (lv_sub hl [0, 1, 2] rfl)
            · have hf99 : zm_fn S_40 < 100 := zm_lt100 hok c_41
              refine lv_aload_n hx hb dz_M_pass_53 rfl (lv_at hl 1 rfl) ?_
              refine va_get (D := (dC, dI)) (ci := 3) (v := .ref a.2.2.2.2.2.2.2.2.2.2) (C := RzM) (T := TzM) (N := 18) hx hb hz inzM hown hK hP 0 rfl rfl 17 (by decide) (hz _ zi_253) (fun _ h9 => h9) rfl dz_M_pass_54 ?_
              refine lv_aload_n hx hb dz_M_pass_57 rfl (lv_at hl 1 rfl) ?_
              refine va_get (D := (dC, dI)) (ci := 3) (v := .int (nI (zm_fn S_40))) (C := RzM) (T := TzM) (N := 18) hx hb hz inzM hown hK hP 0 rfl rfl 16 (by decide) (hz _ zi_252) (fun _ h9 => h9) rfl dz_M_pass_58 ?_
              refine lv_iload_n hx hb dz_M_pass_61 rfl (lv_at hl 0 rfl) ?_
              have hin_42 : vp_in (nI (zm_fn S_40)) 100 := vp_in_nI hf99 (by decide)
              refine va_iast hx hb hK hP hD hS 11 0 rfl rfl hin_42 dz_M_pass_62 (fun H locs hP hD hS => ?_)
              rw [show (nI (zm_fn S_40)).toNatClampNeg = (zm_fn S_40) from nI_clamp (by have := hok.1; have := hok.2.1; have := hok.2.2; omega)] at hP hD
              obtain ⟨S_43, eS_43⟩ : ∃ z, z = zm_sfr S_40 (upd (zm_fr S_40) (zm_fn S_40) (nI (j + 1))) := ⟨_, rfl⟩
              have hP : va_P (dC, dI) vwCl (zm_W ci cj cz h0 a S_43) H := by rw [eS_43]; exact hP
              have hD : va_D A (zm_W ci cj cz h0 a S_43) := by rw [eS_43]; exact hD
              have hok : zm_ok S_43 := by rw [eS_43]; exact hok
              have hj : j < zm_nb S_43 := by rw [eS_43]; exact hj
              have hjk : j + (k + 1) = zm_nb S_43 := by rw [eS_43]; exact hjk
              have hf99 : zm_fn S_43 < 100 := by rw [eS_43]; exact hf99
              refine lv_aload_n hx hb dz_M_pass_63 rfl (lv_at hl 1 rfl) ?_
              refine lv_dup hx hb dz_M_pass_64 rfl ?_
              refine va_get (D := (dC, dI)) (ci := 3) (v := .int (nI (zm_fn S_43))) (C := RzM) (T := TzM) (N := 18) hx hb hz inzM hown hK hP 0 rfl rfl 16 (by decide) (hz _ zi_252) (fun _ h9 => h9) rfl dz_M_pass_65 ?_
              refine lv_iconst (v := 1) hx hb dz_M_pass_68 (by decide) ?_
              refine lv_iadd hx hb dz_M_pass_69 ?_
              refine W.eq (g2 := F0 m 70 ls [.int (nI (zm_fn S_43 + 1)), .ref h0]) (congrArg (fun z => F0 m 70 ls (.int z :: [.ref h0])) (nI_1 _)) ?_
              have hf98 := hf99
              refine va_put (D := (dC, dI)) (ci := 3) (v := .int (nI (zm_fn S_43 + 1))) (ty := .int) (C := RzM) (T := TzM) (N := 18) hx hb hz inzM tyzM tyzM_ok nmzM hown hK hP hD hS 0 rfl rfl 16 (by decide) (hz _ zi_252) (fun _ h9 => h9) rfl (by decide +kernel) rfl rfl (Nat.le_of_ble_eq_true rfl) dz_M_pass_70 (fun H locs hP hD hS => ?_)
              obtain ⟨S_44, eS_44⟩ : ∃ z, z = zm_sfn S_43 (zm_fn S_43 + 1) := ⟨_, rfl⟩
              have hP : va_P (dC, dI) vwCl (zm_W ci cj cz h0 a S_44) H := by rw [eS_44]; exact hP
              have hD : va_D A (zm_W ci cj cz h0 a S_44) := by rw [eS_44]; exact hD
              have hj : j < zm_nb S_44 := by rw [eS_44]; exact hj
              have hjk : j + (k + 1) = zm_nb S_44 := by rw [eS_44]; exact hjk
              have hok : zm_ok S_44 := by rw [eS_44]; exact ⟨hok.1, hok.2.1, hf98⟩
              exact seg2 S_44 H locs ls hjk hok (by subst eS_40 eS_43 eS_44; rw [hinv]; simp only [zm_p1, if_neg c_36, if_neg c_38, if_neg c_41]) hP hD hS (lv_sub hl [0, 1, 2] rfl)
  exact loop (zm_nb M) 0 S_1 H locs ls (by rw [eS_1]; show 0 + zm_nb M = zm_nb M; omega) hok (by rw [eS_1]; rfl) hP hD hS (lv_sub hl [0, 1, 2] rfl)
set_option maxHeartbeats 4000000 in
set_option maxRecDepth 100000 in
theorem ct_M_reserve (l : Launch) (dC : Nat → ClassId) (dI : Nat → Nat → Nat) (ci cj cz : ClassId) (h0 : Nat) (a : zm_Ad) (M : zm_S) (hok : zm_ok M) (sz : Nat) (p1 : Int32) (p2 : Int64) : Met l yz_M_reserve wz_M_reserve (zw_room 1 0 0) (zw_U zw_ns (dC, dI) vwCl (zm_tys ci cj cz) [.ref h0, .int p1, .long p2] (zm_W ci cj cz h0 a M) sz) (va_Qi (fun (r : Int32) (_ : Unit) => r = (zm_reserve M p1 p2).1) (fun (_ : Unit) (t : State) => va_P (dC, dI) vwCl (zm_W ci cj cz h0 a ((zm_reserve M p1 p2).2)) t.heap ∧ va_D (va_A (zm_W ci cj cz h0 a M) sz) (zm_W ci cj cz h0 a ((zm_reserve M p1 p2).2))) (va_A (zm_W ci cj cz h0 a M) sz)) 0 0 (va_A (zm_W ci cj cz h0 a M) sz) := by
  refine Met.ofW (cc := cz_M_reserve) (maxL := 7) (ret := (some .int)) (by decide) rfl ?_
  intro p e s m args below meth c s₁ B hml hv
  obtain ⟨rfl, hsz, hP, hK, hD0, hN⟩ := hv
  have hx := B.exec
  have hb := B.bytes
  have hr := B.returns
  have hts := atoms_spec (ws := wz_M_reserve) B.pre
  have hz : ∀ w ∈ zw_T, w.before ([.ref h0, .int p1, .long p2] : List Value).toArray s = true := fun w h => hts w (List.mem_cons_of_mem _ h)
  have hown : s.vm.findClass RzM = some m.cls := findClass_of_methodNamed B.named
  have hlocks := B.notSynchronized
  have hok0 := hok
  subst hsz
  have hD := hD0.self (sz := s.heap.size)
  generalize hAe : va_A (zm_W ci cj cz h0 a M) s.heap.size = A at hD ⊢
  have hA : ∀ q : Nat, s.heap.size ≤ q → A q := fun q h => by rw [← hAe]; exact Or.inr h
  have hS : va_S A s.heap s.heap [] := va_S.rf
  have hl := lv_entry ([.ref h0, .int p1, .long p2]) (n := 7) (Nat.le_of_ble_eq_true rfl)
  rw [lg_entry_eq]
  generalize (lg_sl ([.ref h0, .int p1, .long p2]) ++ List.replicate (7 - (lg_sl ([.ref h0, .int p1, .long p2])).length) Slot.unset).toArray = ls at hl ⊢
  have hl : lv_has ls 7 [(0, .ref h0), (1, .int p1), (2, .long p2)] := hl
  refine lv_iload_n hx hb dz_M_reserve_0 rfl (lv_at hl 1 rfl) ?_
  refine lv_i2l (v := p1.toInt64) hx hb dz_M_reserve_1 rfl ?_
  refine lv_lconst (v := 1) hx hb dz_M_reserve_2 (by decide) ?_
  refine lv_ldc2 (v := 5) hx hb hown (hz _ zi_278) dz_M_reserve_3 ?_
  refine vp_callSi (va_Run.run (va_runS (As := [.long p1.toInt64, .long 1, .long 5]) (rest := []) ⟨hx, hb, hml, hown, hz⟩ (ct_M_within l dC dI ci cj cz p1.toInt64 1 5) (cwS 3 hz (zw_gS zi_279 zi_280 zi_35 zi_281) rfl rfl rfl (by decide +kernel) ⟨Nat.le_of_ble_eq_true rfl, Nat.le_of_ble_eq_true rfl⟩) (zw_preR zw_ns_ok (ws := []) (fun k q h => by simp at h) hK hN) rfl rfl hl.1 rfl (lv_room (Nat.le_of_ble_eq_true rfl)) dz_M_reserve_6 ⟨Nat.le_of_ble_eq_true rfl, Nat.le_of_ble_eq_true rfl⟩)) (fun r_1 hr_1 => ?_)
  have hr_1 : r_1 = zm_within p1.toInt64 1 5 := hr_1
  subst hr_1
  refine lv_if_eq (tgt := 29) hx hb dz_M_reserve_9 (by decide) (fun c_2 => ?_) (fun c_2 => ?_)
  · refine lv_bipush (v := -12) hx hb dz_M_reserve_29 (by decide) ?_
    have hE_3 : zm_reserve M p1 p2 = ((-12), M) := by simp only [zm_reserve, if_pos c_2]
    exact W.iret (v := (-12)) hx hb hr (fun t ht hW => ⟨⟨_, (), rfl, by show (-12) = (zm_reserve M p1 p2).1; rw [hE_3], by show va_P (dC, dI) vwCl (zm_W ci cj cz h0 a ((zm_reserve M p1 p2).2)) t.heap; rw [ht, hE_3]; exact hP, by show va_D A (zm_W ci cj cz h0 a ((zm_reserve M p1 p2).2)); rw [hE_3]; exact hD⟩, hS.F ht⟩) hS.2.2 dz_M_reserve_31
  · refine lv_lload_n hx hb dz_M_reserve_12 rfl (lv_at hl 2 rfl) ?_
    refine lv_aload_n hx hb dz_M_reserve_13 rfl (lv_at hl 0 rfl) ?_
    refine va_get (D := (dC, dI)) (ci := 3) (v := .long (zm_T M)) (C := RzM) (T := TzM) (N := 18) hx hb hz inzM hown hK hP 0 rfl rfl 10 (by decide) (hz _ zi_246) (fun _ h9 => h9) rfl dz_M_reserve_14 ?_
    refine W.lcmp hx hb dz_M_reserve_17 ?_
    refine lv_if_le (tgt := 29) hx hb dz_M_reserve_18 (by decide) (fun c_4 => ?_) (fun c_4 => ?_)
    · refine lv_bipush (v := -12) hx hb dz_M_reserve_29 (by decide) ?_
      have hE_5 : zm_reserve M p1 p2 = ((-12), M) := by simp only [zm_reserve, if_neg c_2, if_pos c_4]
      exact W.iret (v := (-12)) hx hb hr (fun t ht hW => ⟨⟨_, (), rfl, by show (-12) = (zm_reserve M p1 p2).1; rw [hE_5], by show va_P (dC, dI) vwCl (zm_W ci cj cz h0 a ((zm_reserve M p1 p2).2)) t.heap; rw [ht, hE_5]; exact hP, by show va_D A (zm_W ci cj cz h0 a ((zm_reserve M p1 p2).2)); rw [hE_5]; exact hD⟩, hS.F ht⟩) hS.2.2 dz_M_reserve_31
    · refine lv_lload_n hx hb dz_M_reserve_21 rfl (lv_at hl 2 rfl) ?_
      refine lv_ldc2 (v := 2000000000) hx hb hown (hz _ zi_291) dz_M_reserve_22 ?_
      refine W.lcmp hx hb dz_M_reserve_25 ?_
      refine lv_if_le (tgt := 32) hx hb dz_M_reserve_26 (by decide) (fun c_6 => ?_) (fun c_6 => ?_)
      · refine lv_iconst (v := nI 0) hx hb dz_M_reserve_32 (by decide) ?_
        refine lv_istore (lv' := [(4, .int (nI 0)), (0, .ref h0), (1, .int p1), (2, .long p2)]) hx hb dz_M_reserve_33 hl (by decide) rfl (fun ls hl => ?_)
        refine lv_iconst (v := nI (0 + 1)) hx hb dz_M_reserve_35 (by decide) ?_
        refine lv_istore (lv' := [(5, .int (nI (0 + 1))), (4, .int (nI 0)), (0, .ref h0), (1, .int p1), (2, .long p2)]) hx hb dz_M_reserve_36 hl (by decide) rfl (fun ls hl => ?_)
        have loop : ∀ (k j : Nat) (x : Nat) (hxb : x ≤ 60) (ls : Array Slot), j + k = zm_nb M → zm_bs M p1 (zm_nb M) 0 0 = zm_bs M p1 k j x → lv_has ls 7 [(5, .int (nI (j + 1))), (4, .int (nI x)), (0, .ref h0), (1, .int p1), (2, .long p2)] → W p l e (headSpec wz_M_reserve (zw_room 1 0 0)).room s m ([.ref h0, .int p1, .long p2] : List Value).toArray below meth c s.heap [] 0 0 (MQ below (va_Qi (fun (r : Int32) (_ : Unit) => r = (zm_reserve M p1 p2).1) (fun (_ : Unit) (t : State) => va_P (dC, dI) vwCl (zm_W ci cj cz h0 a ((zm_reserve M p1 p2).2)) t.heap ∧ va_D A (zm_W ci cj cz h0 a ((zm_reserve M p1 p2).2))) A) ([.ref h0, .int p1, .long p2] : List Value).toArray s 0 0 A) (F0 m 38 ls []) := by
          intro k
          induction k with
          | zero =>
            intro j x hxb ls hjk hinv hl
            refine lv_iload hx hb dz_M_reserve_38 (lv_at hl 0 rfl) ?_
            refine lv_aload_n hx hb dz_M_reserve_40 rfl (lv_at hl 2 rfl) ?_
            refine va_get (D := (dC, dI)) (ci := 3) (v := .int (nI (zm_nb M))) (C := RzM) (T := TzM) (N := 18) hx hb hz inzM hown hK hP 0 rfl rfl 0 (by decide) (hz _ zi_236) (fun _ h9 => h9) rfl dz_M_reserve_41 ?_
            refine lv_icmp_gt (tgt := 139) hx hb dz_M_reserve_44 (by decide) (fun c_7 => ?_) (fun c_7 => ?_)
            · have hinv : zm_bs M p1 (zm_nb M) 0 0 = x := hinv
              subst hinv
              have hx60 : zm_bs M p1 (zm_nb M) 0 0 ≤ 60 := hxb
              refine lv_iload hx hb dz_M_reserve_139 (lv_at hl 1 rfl) ?_
              refine lv_if_le (tgt := 152) hx hb dz_M_reserve_141 (by decide) (fun c_8 => ?_) (fun c_8 => ?_)
              · refine lv_iload hx hb dz_M_reserve_152 (lv_at hl 1 rfl) ?_
                have hE_9 : zm_reserve M p1 p2 = (nI (zm_bs M p1 (zm_nb M) 0 0), M) := by simp only [zm_reserve, if_neg c_2, if_neg c_4, if_pos c_6, if_pos c_8]
                exact W.iret (v := nI (zm_bs M p1 (zm_nb M) 0 0)) hx hb hr (fun t ht hW => ⟨⟨_, (), rfl, by show nI (zm_bs M p1 (zm_nb M) 0 0) = (zm_reserve M p1 p2).1; rw [hE_9], by show va_P (dC, dI) vwCl (zm_W ci cj cz h0 a ((zm_reserve M p1 p2).2)) t.heap; rw [ht, hE_9]; exact hP, by show va_D A (zm_W ci cj cz h0 a ((zm_reserve M p1 p2).2)); rw [hE_9]; exact hD⟩, hS.F ht⟩) hS.2.2 dz_M_reserve_154
              · refine lv_aload_n hx hb dz_M_reserve_144 rfl (lv_at hl 2 rfl) ?_
                refine va_get (D := (dC, dI)) (ci := 3) (v := .ref a.2.2.2.2.2.2.2.2.1) (C := RzM) (T := TzM) (N := 18) hx hb hz inzM hown hK hP 0 rfl rfl 9 (by decide) (hz _ zi_245) (fun _ h9 => h9) rfl dz_M_reserve_145 ?_
                refine lv_iload hx hb dz_M_reserve_148 (lv_at hl 1 rfl) ?_
                refine lv_lload_n hx hb dz_M_reserve_150 rfl (lv_at hl 4 rfl) ?_
                have hin_10 : vp_in (nI (zm_bs M p1 (zm_nb M) 0 0)) 61 := vp_in_nI (by omega) (by decide)
                refine va_last hx hb hK hP hD hS 9 1 rfl rfl hin_10 dz_M_reserve_151 (fun H locs hP hD hS => ?_)
                rw [show (nI (zm_bs M p1 (zm_nb M) 0 0)).toNatClampNeg = (zm_bs M p1 (zm_nb M) 0 0) from nI_clamp (by omega)] at hP hD
                obtain ⟨S_11, eS_11⟩ : ∃ z, z = zm_ske M (vp_updL (zm_ke M) (zm_bs M p1 (zm_nb M) 0 0) p2) := ⟨_, rfl⟩
                have hP : va_P (dC, dI) vwCl (zm_W ci cj cz h0 a S_11) H := by rw [eS_11]; exact hP
                have hD : va_D A (zm_W ci cj cz h0 a S_11) := by rw [eS_11]; exact hD
                have hok : zm_ok S_11 := by rw [eS_11]; exact hok
                refine lv_iload hx hb dz_M_reserve_152 (lv_at hl 1 rfl) ?_
                have hE_12 : zm_reserve M p1 p2 = (nI (zm_bs M p1 (zm_nb M) 0 0), S_11) := by subst eS_11; simp only [zm_reserve, if_neg c_2, if_neg c_4, if_pos c_6, if_neg c_8]
                exact W.iret (v := nI (zm_bs M p1 (zm_nb M) 0 0)) hx hb hr (fun t ht hW => ⟨⟨_, (), rfl, by show nI (zm_bs M p1 (zm_nb M) 0 0) = (zm_reserve M p1 p2).1; rw [hE_12], by show va_P (dC, dI) vwCl (zm_W ci cj cz h0 a ((zm_reserve M p1 p2).2)) t.heap; rw [ht, hE_12]; exact hP, by show va_D A (zm_W ci cj cz h0 a ((zm_reserve M p1 p2).2)); rw [hE_12]; exact hD⟩, hS.F ht⟩) hS.2.2 dz_M_reserve_154
            · exact absurd (nI_lt (by omega) (by have := hok.1; omega)) c_7
          | succ k ih =>
            intro j x hxb ls hjk hinv hl
            have hj : j < zm_nb M := by omega
            refine lv_iload hx hb dz_M_reserve_38 (lv_at hl 0 rfl) ?_
            refine lv_aload_n hx hb dz_M_reserve_40 rfl (lv_at hl 2 rfl) ?_
            refine va_get (D := (dC, dI)) (ci := 3) (v := .int (nI (zm_nb M))) (C := RzM) (T := TzM) (N := 18) hx hb hz inzM hown hK hP 0 rfl rfl 0 (by decide) (hz _ zi_236) (fun _ h9 => h9) rfl dz_M_reserve_41 ?_
            refine lv_icmp_gt (tgt := 139) hx hb dz_M_reserve_44 (by decide) (fun c_13 => ?_) (fun c_13 => ?_)
            · exact absurd c_13 (nI_nlt (by omega) (by have := hok.1; omega))
            · refine lv_aload_n hx hb dz_M_reserve_47 rfl (lv_at hl 2 rfl) ?_
              refine va_get (D := (dC, dI)) (ci := 3) (v := .ref a.2.1) (C := RzM) (T := TzM) (N := 18) hx hb hz inzM hown hK hP 0 rfl rfl 2 (by decide) (hz _ zi_238) (fun _ h9 => h9) rfl dz_M_reserve_48 ?_
              refine lv_iload hx hb dz_M_reserve_51 (lv_at hl 0 rfl) ?_
              have hin_14 : vp_in (nI (j + 1)) 61 := vp_in_nI (by have := hok.1; omega) (by decide)
              refine va_iald hx hb hK hP 2 0 rfl rfl hin_14 dz_M_reserve_53 ?_
              refine W.eq (g2 := F0 m 54 ls [.int (zm_dr M (j + 1))]) (congrArg (fun z => F0 m 54 ls (.int ((zm_dr M) z) :: [])) (nI_clamp (by have := hok.1; have := hok.2.1; have := hok.2.2; omega))) ?_
              refine lv_if_ne (tgt := 94) hx hb dz_M_reserve_54 (by decide) (fun c_15 => ?_) (fun c_15 => ?_)
              · refine lv_iconst (v := 0) hx hb dz_M_reserve_94 (by decide) ?_
                refine lv_istore (lv' := [(6, .int 0), (5, .int (nI (j + 1))), (4, .int (nI x)), (0, .ref h0), (1, .int p1), (2, .long p2)]) hx hb dz_M_reserve_95 hl (by decide) rfl (fun ls hl => ?_)
                refine lv_iload hx hb dz_M_reserve_97 (lv_at hl 0 rfl) ?_
                refine lv_if_eq (tgt := 129) hx hb dz_M_reserve_99 (by decide) (fun c_16 => ?_) (fun c_16 => ?_)
                · refine lv_iload hx hb dz_M_reserve_129 (lv_at hl 2 rfl) ?_
                  refine lv_istore (lv' := [(4, .int (nI x)), (6, .int 0), (5, .int (nI (j + 1))), (0, .ref h0), (1, .int p1), (2, .long p2)]) hx hb dz_M_reserve_131 hl (by decide) rfl (fun ls hl => ?_)
                  refine lv_iinc (v := nI (j + 1 + 1)) (lv' := [(5, .int (nI (j + 1 + 1))), (4, .int (nI x)), (6, .int 0), (0, .ref h0), (1, .int p1), (2, .long p2)]) hx hb dz_M_reserve_133 hl (k := 2) rfl (nI_1 _) (by decide) rfl (fun ls hl => ?_)
                  refine lv_goto (tgt := 38) hx hb dz_M_reserve_136 (by decide) ?_
                  exact ih (j + 1) x (by have := hok.1; omega) ls (by omega) (by rw [hinv]; simp only [zm_bs, if_neg c_15]) (lv_sub hl [0, 1, 3, 4, 5] rfl)
                · exact absurd (by decide) c_16
              · refine lv_aload_n hx hb dz_M_reserve_57 rfl (lv_at hl 2 rfl) ?_
                refine va_get (D := (dC, dI)) (ci := 3) (v := .ref a.2.2.2.2.1) (C := RzM) (T := TzM) (N := 18) hx hb hz inzM hown hK hP 0 rfl rfl 5 (by decide) (hz _ zi_241) (fun _ h9 => h9) rfl dz_M_reserve_58 ?_
                refine lv_iload hx hb dz_M_reserve_61 (lv_at hl 0 rfl) ?_
                have hin_17 : vp_in (nI (j + 1)) 61 := vp_in_nI (by have := hok.1; omega) (by decide)
                refine va_iald hx hb hK hP 5 0 rfl rfl hin_17 dz_M_reserve_63 ?_
                refine W.eq (g2 := F0 m 64 ls [.int (zm_it M (j + 1))]) (congrArg (fun z => F0 m 64 ls (.int ((zm_it M) z) :: [])) (nI_clamp (by have := hok.1; have := hok.2.1; have := hok.2.2; omega))) ?_
                refine lv_if_ne (tgt := 94) hx hb dz_M_reserve_64 (by decide) (fun c_18 => ?_) (fun c_18 => ?_)
                · refine lv_iconst (v := 0) hx hb dz_M_reserve_94 (by decide) ?_
                  refine lv_istore (lv' := [(6, .int 0), (5, .int (nI (j + 1))), (4, .int (nI x)), (0, .ref h0), (1, .int p1), (2, .long p2)]) hx hb dz_M_reserve_95 hl (by decide) rfl (fun ls hl => ?_)
                  refine lv_iload hx hb dz_M_reserve_97 (lv_at hl 0 rfl) ?_
                  refine lv_if_eq (tgt := 129) hx hb dz_M_reserve_99 (by decide) (fun c_19 => ?_) (fun c_19 => ?_)
                  · refine lv_iload hx hb dz_M_reserve_129 (lv_at hl 2 rfl) ?_
                    refine lv_istore (lv' := [(4, .int (nI x)), (6, .int 0), (5, .int (nI (j + 1))), (0, .ref h0), (1, .int p1), (2, .long p2)]) hx hb dz_M_reserve_131 hl (by decide) rfl (fun ls hl => ?_)
                    refine lv_iinc (v := nI (j + 1 + 1)) (lv' := [(5, .int (nI (j + 1 + 1))), (4, .int (nI x)), (6, .int 0), (0, .ref h0), (1, .int p1), (2, .long p2)]) hx hb dz_M_reserve_133 hl (k := 2) rfl (nI_1 _) (by decide) rfl (fun ls hl => ?_)
                    refine lv_goto (tgt := 38) hx hb dz_M_reserve_136 (by decide) ?_
                    exact ih (j + 1) x (by have := hok.1; omega) ls (by omega) (by rw [hinv]; simp only [zm_bs, if_pos c_15, if_neg c_18]) (lv_sub hl [0, 1, 3, 4, 5] rfl)
                  · exact absurd (by decide) c_19
                · refine lv_aload_n hx hb dz_M_reserve_67 rfl (lv_at hl 2 rfl) ?_
                  refine va_get (D := (dC, dI)) (ci := 3) (v := .ref a.2.2.2.2.2.2.2.2.1) (C := RzM) (T := TzM) (N := 18) hx hb hz inzM hown hK hP 0 rfl rfl 9 (by decide) (hz _ zi_245) (fun _ h9 => h9) rfl dz_M_reserve_68 ?_
                  refine lv_iload hx hb dz_M_reserve_71 (lv_at hl 0 rfl) ?_
                  have hin_20 : vp_in (nI (j + 1)) 61 := vp_in_nI (by have := hok.1; omega) (by decide)
                  refine va_lald hx hb hK hP 9 1 rfl rfl hin_20 dz_M_reserve_73 ?_
                  refine W.eq (g2 := F0 m 74 ls [.long (zm_ke M (j + 1))]) (congrArg (fun z => F0 m 74 ls (.long ((zm_ke M) z) :: [])) (nI_clamp (by have := hok.1; have := hok.2.1; have := hok.2.2; omega))) ?_
                  refine lv_lconst (v := 0) hx hb dz_M_reserve_74 (by decide) ?_
                  refine W.lcmp hx hb dz_M_reserve_75 ?_
                  refine lv_if_ne (tgt := 94) hx hb dz_M_reserve_76 (by decide) (fun c_21 => ?_) (fun c_21 => ?_)
                  · refine lv_iconst (v := 0) hx hb dz_M_reserve_94 (by decide) ?_
                    refine lv_istore (lv' := [(6, .int 0), (5, .int (nI (j + 1))), (4, .int (nI x)), (0, .ref h0), (1, .int p1), (2, .long p2)]) hx hb dz_M_reserve_95 hl (by decide) rfl (fun ls hl => ?_)
                    refine lv_iload hx hb dz_M_reserve_97 (lv_at hl 0 rfl) ?_
                    refine lv_if_eq (tgt := 129) hx hb dz_M_reserve_99 (by decide) (fun c_22 => ?_) (fun c_22 => ?_)
                    · refine lv_iload hx hb dz_M_reserve_129 (lv_at hl 2 rfl) ?_
                      refine lv_istore (lv' := [(4, .int (nI x)), (6, .int 0), (5, .int (nI (j + 1))), (0, .ref h0), (1, .int p1), (2, .long p2)]) hx hb dz_M_reserve_131 hl (by decide) rfl (fun ls hl => ?_)
                      refine lv_iinc (v := nI (j + 1 + 1)) (lv' := [(5, .int (nI (j + 1 + 1))), (4, .int (nI x)), (6, .int 0), (0, .ref h0), (1, .int p1), (2, .long p2)]) hx hb dz_M_reserve_133 hl (k := 2) rfl (nI_1 _) (by decide) rfl (fun ls hl => ?_)
                      refine lv_goto (tgt := 38) hx hb dz_M_reserve_136 (by decide) ?_
                      exact ih (j + 1) x (by have := hok.1; omega) ls (by omega) (by rw [hinv]; simp only [zm_bs, if_pos c_15, if_pos c_18, if_neg c_21]) (lv_sub hl [0, 1, 3, 4, 5] rfl)
                    · exact absurd (by decide) c_22
                  · refine lv_aload_n hx hb dz_M_reserve_79 rfl (lv_at hl 2 rfl) ?_
                    refine va_get (D := (dC, dI)) (ci := 3) (v := .ref a.1) (C := RzM) (T := TzM) (N := 18) hx hb hz inzM hown hK hP 0 rfl rfl 1 (by decide) (hz _ zi_237) (fun _ h9 => h9) rfl dz_M_reserve_80 ?_
                    refine lv_iload hx hb dz_M_reserve_83 (lv_at hl 0 rfl) ?_
                    have hin_23 : vp_in (nI (j + 1)) 61 := vp_in_nI (by have := hok.1; omega) (by decide)
                    refine va_iald hx hb hK hP 1 0 rfl rfl hin_23 dz_M_reserve_85 ?_
                    refine W.eq (g2 := F0 m 86 ls [.int (zm_sz M (j + 1))]) (congrArg (fun z => F0 m 86 ls (.int ((zm_sz M) z) :: [])) (nI_clamp (by have := hok.1; have := hok.2.1; have := hok.2.2; omega))) ?_
                    refine lv_iload_n hx hb dz_M_reserve_86 rfl (lv_at hl 3 rfl) ?_
                    refine lv_icmp_lt (tgt := 94) hx hb dz_M_reserve_87 (by decide) (fun c_24 => ?_) (fun c_24 => ?_)
                    · refine lv_iconst (v := 0) hx hb dz_M_reserve_94 (by decide) ?_
                      refine lv_istore (lv' := [(6, .int 0), (5, .int (nI (j + 1))), (4, .int (nI x)), (0, .ref h0), (1, .int p1), (2, .long p2)]) hx hb dz_M_reserve_95 hl (by decide) rfl (fun ls hl => ?_)
                      refine lv_iload hx hb dz_M_reserve_97 (lv_at hl 0 rfl) ?_
                      refine lv_if_eq (tgt := 129) hx hb dz_M_reserve_99 (by decide) (fun c_25 => ?_) (fun c_25 => ?_)
                      · refine lv_iload hx hb dz_M_reserve_129 (lv_at hl 2 rfl) ?_
                        refine lv_istore (lv' := [(4, .int (nI x)), (6, .int 0), (5, .int (nI (j + 1))), (0, .ref h0), (1, .int p1), (2, .long p2)]) hx hb dz_M_reserve_131 hl (by decide) rfl (fun ls hl => ?_)
                        refine lv_iinc (v := nI (j + 1 + 1)) (lv' := [(5, .int (nI (j + 1 + 1))), (4, .int (nI x)), (6, .int 0), (0, .ref h0), (1, .int p1), (2, .long p2)]) hx hb dz_M_reserve_133 hl (k := 2) rfl (nI_1 _) (by decide) rfl (fun ls hl => ?_)
                        refine lv_goto (tgt := 38) hx hb dz_M_reserve_136 (by decide) ?_
                        exact ih (j + 1) x (by have := hok.1; omega) ls (by omega) (by rw [hinv]; simp only [zm_bs, if_pos c_15, if_pos c_18, if_pos c_21, if_pos c_24]) (lv_sub hl [0, 1, 3, 4, 5] rfl)
                      · exact absurd (by decide) c_25
                    · refine lv_iconst (v := 1) hx hb dz_M_reserve_90 (by decide) ?_
                      refine lv_goto (tgt := 95) hx hb dz_M_reserve_91 (by decide) ?_
                      refine lv_istore (lv' := [(6, .int 1), (5, .int (nI (j + 1))), (4, .int (nI x)), (0, .ref h0), (1, .int p1), (2, .long p2)]) hx hb dz_M_reserve_95 hl (by decide) rfl (fun ls hl => ?_)
                      refine lv_iload hx hb dz_M_reserve_97 (lv_at hl 0 rfl) ?_
                      refine lv_if_eq (tgt := 129) hx hb dz_M_reserve_99 (by decide) (fun c_26 => ?_) (fun c_26 => ?_)
                      · exact absurd c_26 (by decide)
                      · refine lv_iload hx hb dz_M_reserve_102 (lv_at hl 2 rfl) ?_
                        refine lv_if_eq (tgt := 124) hx hb dz_M_reserve_104 (by decide) (fun c_27 => ?_) (fun c_27 => ?_)
                        · refine lv_iload hx hb dz_M_reserve_124 (lv_at hl 1 rfl) ?_
                          refine lv_goto (tgt := 131) hx hb dz_M_reserve_126 (by decide) ?_
                          refine lv_istore (lv' := [(4, .int (nI (j + 1))), (6, .int 1), (5, .int (nI (j + 1))), (0, .ref h0), (1, .int p1), (2, .long p2)]) hx hb dz_M_reserve_131 hl (by decide) rfl (fun ls hl => ?_)
                          refine lv_iinc (v := nI (j + 1 + 1)) (lv' := [(5, .int (nI (j + 1 + 1))), (4, .int (nI (j + 1))), (6, .int 1), (0, .ref h0), (1, .int p1), (2, .long p2)]) hx hb dz_M_reserve_133 hl (k := 2) rfl (nI_1 _) (by decide) rfl (fun ls hl => ?_)
                          refine lv_goto (tgt := 38) hx hb dz_M_reserve_136 (by decide) ?_
                          exact ih (j + 1) (j + 1) (by have := hok.1; omega) ls (by omega) (by rw [hinv]; simp only [zm_bs, if_pos c_15, if_pos c_18, if_pos c_21, if_neg c_24, if_pos c_27]) (lv_sub hl [0, 1, 3, 4, 5] rfl)
                        · refine lv_aload_n hx hb dz_M_reserve_107 rfl (lv_at hl 3 rfl) ?_
                          refine va_get (D := (dC, dI)) (ci := 3) (v := .ref a.1) (C := RzM) (T := TzM) (N := 18) hx hb hz inzM hown hK hP 0 rfl rfl 1 (by decide) (hz _ zi_237) (fun _ h9 => h9) rfl dz_M_reserve_108 ?_
                          refine lv_iload hx hb dz_M_reserve_111 (lv_at hl 1 rfl) ?_
                          have hin_28 : vp_in (nI (j + 1)) 61 := vp_in_nI (by have := hok.1; omega) (by decide)
                          refine va_iald hx hb hK hP 1 0 rfl rfl hin_28 dz_M_reserve_113 ?_
                          refine W.eq (g2 := F0 m 114 ls [.int (zm_sz M (j + 1))]) (congrArg (fun z => F0 m 114 ls (.int ((zm_sz M) z) :: [])) (nI_clamp (by have := hok.1; have := hok.2.1; have := hok.2.2; omega))) ?_
                          refine lv_aload_n hx hb dz_M_reserve_114 rfl (lv_at hl 3 rfl) ?_
                          refine va_get (D := (dC, dI)) (ci := 3) (v := .ref a.1) (C := RzM) (T := TzM) (N := 18) hx hb hz inzM hown hK hP 0 rfl rfl 1 (by decide) (hz _ zi_237) (fun _ h9 => h9) rfl dz_M_reserve_115 ?_
                          refine lv_iload hx hb dz_M_reserve_118 (lv_at hl 2 rfl) ?_
                          have hin_29 : vp_in (nI x) 61 := vp_in_nI (by have := hok.1; omega) (by decide)
                          refine va_iald hx hb hK hP 1 0 rfl rfl hin_29 dz_M_reserve_120 ?_
                          refine W.eq (g2 := F0 m 121 ls [.int (zm_sz M x), .int (zm_sz M (j + 1))]) (congrArg (fun z => F0 m 121 ls (.int ((zm_sz M) z) :: [.int (zm_sz M (j + 1))])) (nI_clamp (by have := hok.1; have := hok.2.1; have := hok.2.2; omega))) ?_
                          refine lv_icmp_ge (tgt := 129) hx hb dz_M_reserve_121 (by decide) (fun c_30 => ?_) (fun c_30 => ?_)
                          · refine lv_iload hx hb dz_M_reserve_129 (lv_at hl 2 rfl) ?_
                            refine lv_istore (lv' := [(4, .int (nI x)), (6, .int 1), (5, .int (nI (j + 1))), (0, .ref h0), (1, .int p1), (2, .long p2)]) hx hb dz_M_reserve_131 hl (by decide) rfl (fun ls hl => ?_)
                            refine lv_iinc (v := nI (j + 1 + 1)) (lv' := [(5, .int (nI (j + 1 + 1))), (4, .int (nI x)), (6, .int 1), (0, .ref h0), (1, .int p1), (2, .long p2)]) hx hb dz_M_reserve_133 hl (k := 2) rfl (nI_1 _) (by decide) rfl (fun ls hl => ?_)
                            refine lv_goto (tgt := 38) hx hb dz_M_reserve_136 (by decide) ?_
                            exact ih (j + 1) x (by have := hok.1; omega) ls (by omega) (by rw [hinv]; simp only [zm_bs, if_pos c_15, if_pos c_18, if_pos c_21, if_neg c_24, if_neg c_27, if_pos c_30]) (lv_sub hl [0, 1, 3, 4, 5] rfl)
                          · refine lv_iload hx hb dz_M_reserve_124 (lv_at hl 1 rfl) ?_
                            refine lv_goto (tgt := 131) hx hb dz_M_reserve_126 (by decide) ?_
                            refine lv_istore (lv' := [(4, .int (nI (j + 1))), (6, .int 1), (5, .int (nI (j + 1))), (0, .ref h0), (1, .int p1), (2, .long p2)]) hx hb dz_M_reserve_131 hl (by decide) rfl (fun ls hl => ?_)
                            refine lv_iinc (v := nI (j + 1 + 1)) (lv' := [(5, .int (nI (j + 1 + 1))), (4, .int (nI (j + 1))), (6, .int 1), (0, .ref h0), (1, .int p1), (2, .long p2)]) hx hb dz_M_reserve_133 hl (k := 2) rfl (nI_1 _) (by decide) rfl (fun ls hl => ?_)
                            refine lv_goto (tgt := 38) hx hb dz_M_reserve_136 (by decide) ?_
                            exact ih (j + 1) (j + 1) (by have := hok.1; omega) ls (by omega) (by rw [hinv]; simp only [zm_bs, if_pos c_15, if_pos c_18, if_pos c_21, if_neg c_24, if_neg c_27, if_neg c_30]) (lv_sub hl [0, 1, 3, 4, 5] rfl)
        exact loop (zm_nb M) 0 0 (by omega) ls (by omega) rfl (lv_sub hl [0, 1, 2, 3, 4] rfl)
      · refine lv_bipush (v := -12) hx hb dz_M_reserve_29 (by decide) ?_
        have hE_31 : zm_reserve M p1 p2 = ((-12), M) := by simp only [zm_reserve, if_neg c_2, if_neg c_4, if_neg c_6]
        exact W.iret (v := (-12)) hx hb hr (fun t ht hW => ⟨⟨_, (), rfl, by show (-12) = (zm_reserve M p1 p2).1; rw [hE_31], by show va_P (dC, dI) vwCl (zm_W ci cj cz h0 a ((zm_reserve M p1 p2).2)) t.heap; rw [ht, hE_31]; exact hP, by show va_D A (zm_W ci cj cz h0 a ((zm_reserve M p1 p2).2)); rw [hE_31]; exact hD⟩, hS.F ht⟩) hS.2.2 dz_M_reserve_31
end
section
set_option maxHeartbeats 4000000 in
set_option maxRecDepth 100000 in
theorem ct_M_code (l : Launch) (dC : Nat → ClassId) (dI : Nat → Nat → Nat) (ci cj cz : ClassId) (h0 : Nat) (a : zm_Ad) (M : zm_S) (hok : zm_ok M) (p1 : Int32) : Met l yz_M_code wz_M_code (zw_room 1 0 0) (zw_R zw_ns (dC, dI) vwCl (zm_tys ci cj cz) [.ref h0, .int p1] (zm_W ci cj cz h0 a M)) (vp_Si (fun r => r = zm_code M p1)) 0 0 (fun _ => False) := by
  refine Met.ofW (cc := cz_M_code) (maxL := 3) (ret := (some .int)) (by decide) rfl ?_
  intro p e s m args below meth c s₁ B hml hv
  obtain ⟨rfl, hP, hK, hN⟩ := hv
  have hx := B.exec
  have hb := B.bytes
  have hr := B.returns
  have hts := atoms_spec (ws := wz_M_code) B.pre
  have hz : ∀ w ∈ zw_T, w.before ([.ref h0, .int p1] : List Value).toArray s = true := fun w h => hts w (List.mem_cons_of_mem _ h)
  have hown : s.vm.findClass RzM = some m.cls := findClass_of_methodNamed B.named
  have hlocks := B.notSynchronized
  have hok0 := hok
  have hl := lv_entry ([.ref h0, .int p1]) (n := 3) (Nat.le_of_ble_eq_true rfl)
  rw [lg_entry_eq]
  generalize (lg_sl ([.ref h0, .int p1]) ++ List.replicate (3 - (lg_sl ([.ref h0, .int p1])).length) Slot.unset).toArray = ls at hl ⊢
  have hl : lv_has ls 3 [(0, .ref h0), (1, .int p1)] := hl
  refine lv_iload_n hx hb dz_M_code_0 rfl (lv_at hl 1 rfl) ?_
  refine lv_i2l (v := p1.toInt64) hx hb dz_M_code_1 rfl ?_
  refine lv_lconst (v := 1) hx hb dz_M_code_2 (by decide) ?_
  refine lv_ldc2 (v := 9999) hx hb hown (hz _ zi_299) dz_M_code_3 ?_
  refine vp_callSi (va_Run.run (va_runS (As := [.long p1.toInt64, .long 1, .long 9999]) (rest := []) ⟨hx, hb, hml, hown, hz⟩ (ct_M_within l dC dI ci cj cz p1.toInt64 1 9999) (cwS 3 hz (zw_gS zi_279 zi_280 zi_35 zi_281) rfl rfl rfl (by decide +kernel) ⟨Nat.le_of_ble_eq_true rfl, Nat.le_of_ble_eq_true rfl⟩) (zw_preR zw_ns_ok (ws := []) (fun k q h => by simp at h) hK hN) rfl rfl hl.1 rfl (lv_room (Nat.le_of_ble_eq_true rfl)) dz_M_code_6 ⟨Nat.le_of_ble_eq_true rfl, Nat.le_of_ble_eq_true rfl⟩)) (fun r_1 hr_1 => ?_)
  have hr_1 : r_1 = zm_within p1.toInt64 1 9999 := hr_1
  subst hr_1
  refine lv_if_ne (tgt := 15) hx hb dz_M_code_9 (by decide) (fun c_2 => ?_) (fun c_2 => ?_)
  · refine lv_iconst (v := nI (0 + 1)) hx hb dz_M_code_15 (by decide) ?_
    refine lv_istore_n (lv' := [(2, .int (nI (0 + 1))), (0, .ref h0), (1, .int p1)]) hx hb dz_M_code_16 rfl hl (by decide) rfl (fun ls hl => ?_)
    have loop : ∀ (k j : Nat) (ls : Array Slot), j + k = zm_nb M → zm_cd M p1 (zm_nb M) 0 = zm_cd M p1 k j → lv_has ls 3 [(2, .int (nI (j + 1))), (0, .ref h0), (1, .int p1)] → W p l e (headSpec wz_M_code (zw_room 1 0 0)).room s m ([.ref h0, .int p1] : List Value).toArray below meth c s.heap [] 0 0 (MQ below (vp_Si (fun r => r = zm_code M p1)) ([.ref h0, .int p1] : List Value).toArray s 0 0 (fun _ => False)) (F0 m 17 ls []) := by
      intro k
      induction k with
      | zero =>
        intro j ls hjk hinv hl
        refine lv_iload_n hx hb dz_M_code_17 rfl (lv_at hl 0 rfl) ?_
        refine lv_aload_n hx hb dz_M_code_18 rfl (lv_at hl 1 rfl) ?_
        refine va_get (D := (dC, dI)) (ci := 3) (v := .int (nI (zm_nb M))) (C := RzM) (T := TzM) (N := 18) hx hb hz inzM hown hK hP 0 rfl rfl 0 (by decide) (hz _ zi_236) (fun _ h9 => h9) rfl dz_M_code_19 ?_
        refine lv_icmp_gt (tgt := 48) hx hb dz_M_code_22 (by decide) (fun c_3 => ?_) (fun c_3 => ?_)
        · refine lv_iconst (v := -1) hx hb dz_M_code_48 (by decide) ?_
          exact W.iret (v := (-1)) hx hb hr (fun t ht hW => ⟨_, rfl, by simp only [zm_code, if_neg c_2]; rw [hinv]; rfl, ht⟩) (fun _ h => by cases h) dz_M_code_49
        · exact absurd (nI_lt (by omega) (by have := hok.1; omega)) c_3
      | succ k ih =>
        intro j ls hjk hinv hl
        have hj : j < zm_nb M := by omega
        refine lv_iload_n hx hb dz_M_code_17 rfl (lv_at hl 0 rfl) ?_
        refine lv_aload_n hx hb dz_M_code_18 rfl (lv_at hl 1 rfl) ?_
        refine va_get (D := (dC, dI)) (ci := 3) (v := .int (nI (zm_nb M))) (C := RzM) (T := TzM) (N := 18) hx hb hz inzM hown hK hP 0 rfl rfl 0 (by decide) (hz _ zi_236) (fun _ h9 => h9) rfl dz_M_code_19 ?_
        refine lv_icmp_gt (tgt := 48) hx hb dz_M_code_22 (by decide) (fun c_4 => ?_) (fun c_4 => ?_)
        · exact absurd c_4 (nI_nlt (by omega) (by have := hok.1; omega))
        · refine lv_aload_n hx hb dz_M_code_25 rfl (lv_at hl 1 rfl) ?_
          refine va_get (D := (dC, dI)) (ci := 3) (v := .ref a.2.2.2.2.1) (C := RzM) (T := TzM) (N := 18) hx hb hz inzM hown hK hP 0 rfl rfl 5 (by decide) (hz _ zi_241) (fun _ h9 => h9) rfl dz_M_code_26 ?_
          refine lv_iload_n hx hb dz_M_code_29 rfl (lv_at hl 0 rfl) ?_
          have hin_5 : vp_in (nI (j + 1)) 61 := vp_in_nI (by have := hok.1; omega) (by decide)
          refine va_iald hx hb hK hP 5 0 rfl rfl hin_5 dz_M_code_30 ?_
          refine W.eq (g2 := F0 m 31 ls [.int (zm_it M (j + 1))]) (congrArg (fun z => F0 m 31 ls (.int ((zm_it M) z) :: [])) (nI_clamp (by have := hok.1; have := hok.2.1; have := hok.2.2; omega))) ?_
          refine lv_iload_n hx hb dz_M_code_31 rfl (lv_at hl 2 rfl) ?_
          refine lv_icmp_ne (tgt := 42) hx hb dz_M_code_32 (by decide) (fun c_6 => ?_) (fun c_6 => ?_)
          · refine lv_iinc (v := nI (j + 1 + 1)) (lv' := [(2, .int (nI (j + 1 + 1))), (0, .ref h0), (1, .int p1)]) hx hb dz_M_code_42 hl (k := 0) rfl (nI_1 _) (by decide) rfl (fun ls hl => ?_)
            refine lv_goto (tgt := 17) hx hb dz_M_code_45 (by decide) ?_
            exact ih (j + 1) ls (by omega) (by rw [hinv]; simp only [zm_cd, if_neg c_6]) (lv_sub hl [0, 1, 2] rfl)
          · refine lv_aload_n hx hb dz_M_code_35 rfl (lv_at hl 1 rfl) ?_
            refine va_get (D := (dC, dI)) (ci := 3) (v := .ref a.2.2.2.2.2.1) (C := RzM) (T := TzM) (N := 18) hx hb hz inzM hown hK hP 0 rfl rfl 6 (by decide) (hz _ zi_242) (fun _ h9 => h9) rfl dz_M_code_36 ?_
            refine lv_iload_n hx hb dz_M_code_39 rfl (lv_at hl 0 rfl) ?_
            have hin_7 : vp_in (nI (j + 1)) 61 := vp_in_nI (by have := hok.1; omega) (by decide)
            refine va_iald hx hb hK hP 6 0 rfl rfl hin_7 dz_M_code_40 ?_
            refine W.eq (g2 := F0 m 41 ls [.int (zm_co M (j + 1))]) (congrArg (fun z => F0 m 41 ls (.int ((zm_co M) z) :: [])) (nI_clamp (by have := hok.1; have := hok.2.1; have := hok.2.2; omega))) ?_
            exact W.iret (v := zm_co M (j + 1)) hx hb hr (fun t ht hW => ⟨_, rfl, by simp only [zm_code, if_neg c_2]; rw [hinv]; simp only [zm_cd, if_pos c_6], ht⟩) (fun _ h => by cases h) dz_M_code_41
    exact loop (zm_nb M) 0 ls (by omega) rfl (lv_sub hl [0, 1, 2] rfl)
  · refine lv_bipush (v := -12) hx hb dz_M_code_12 (by decide) ?_
    exact W.iret (v := (-12)) hx hb hr (fun t ht hW => ⟨_, rfl, by simp only [zm_code, if_pos c_2], ht⟩) (fun _ h => by cases h) dz_M_code_14
set_option maxHeartbeats 4000000 in
set_option maxRecDepth 100000 in
theorem ct_M_put (l : Launch) (dC : Nat → ClassId) (dI : Nat → Nat → Nat) (ci cj cz : ClassId) (h0 : Nat) (a : zm_Ad) (M : zm_S) (hok : zm_ok M) (sz : Nat) (p1 : Int32) (p2 : Int32) (p3 : Int64) : Met l yz_M_put wz_M_put (zw_room 2 0 0) (zw_U zw_ns (dC, dI) vwCl (zm_tys ci cj cz) [.ref h0, .int p1, .int p2, .long p3] (zm_W ci cj cz h0 a M) sz) (va_Qi (fun (r : Int32) (_ : Unit) => r = (zm_put M p1 p2 p3).1) (fun (_ : Unit) (t : State) => va_P (dC, dI) vwCl (zm_W ci cj cz h0 a ((zm_put M p1 p2 p3).2)) t.heap ∧ va_D (va_A (zm_W ci cj cz h0 a M) sz) (zm_W ci cj cz h0 a ((zm_put M p1 p2 p3).2))) (va_A (zm_W ci cj cz h0 a M) sz)) 0 0 (va_A (zm_W ci cj cz h0 a M) sz) := by
  refine Met.ofW (cc := cz_M_put) (maxL := 7) (ret := (some .int)) (by decide) rfl ?_
  intro p e s m args below meth c s₁ B hml hv
  obtain ⟨rfl, hsz, hP, hK, hD0, hN⟩ := hv
  have hx := B.exec
  have hb := B.bytes
  have hr := B.returns
  have hts := atoms_spec (ws := wz_M_put) B.pre
  have hz : ∀ w ∈ zw_T, w.before ([.ref h0, .int p1, .int p2, .long p3] : List Value).toArray s = true := fun w h => hts w (List.mem_cons_of_mem _ h)
  have hown : s.vm.findClass RzM = some m.cls := findClass_of_methodNamed B.named
  have hlocks := B.notSynchronized
  have hok0 := hok
  subst hsz
  have hD := hD0.self (sz := s.heap.size)
  generalize hAe : va_A (zm_W ci cj cz h0 a M) s.heap.size = A at hD ⊢
  have hA : ∀ q : Nat, s.heap.size ≤ q → A q := fun q h => by rw [← hAe]; exact Or.inr h
  have hS : va_S A s.heap s.heap [] := va_S.rf
  have hl := lv_entry ([.ref h0, .int p1, .int p2, .long p3]) (n := 7) (Nat.le_of_ble_eq_true rfl)
  rw [lg_entry_eq]
  generalize (lg_sl ([.ref h0, .int p1, .int p2, .long p3]) ++ List.replicate (7 - (lg_sl ([.ref h0, .int p1, .int p2, .long p3])).length) Slot.unset).toArray = ls at hl ⊢
  have hl : lv_has ls 7 [(0, .ref h0), (1, .int p1), (2, .int p2), (3, .long p3)] := hl
  refine lv_aload_n hx hb dz_M_put_0 rfl (lv_at hl 0 rfl) ?_
  refine lv_iload_n hx hb dz_M_put_1 rfl (lv_at hl 1 rfl) ?_
  refine vp_callSi (va_Run.run (va_runV (As := [.int p1]) (rest := []) ⟨hx, hb, hml, hown, hz⟩ (ct_M_isBox l dC dI ci cj cz h0 a M hok p1) (cwV 1 hz (zw_gV zi_296 zi_297 zi_26 zi_35 zi_298) rfl rfl rfl (by decide +kernel) ⟨Nat.le_of_ble_eq_true rfl, Nat.le_of_ble_eq_true rfl⟩) (zw_preRV zw_ns_ok hP hK hN (ci := 3) rfl (k := 0) rfl) rfl rfl hl.1 rfl (lv_room (Nat.le_of_ble_eq_true rfl)) dz_M_put_2 ⟨Nat.le_of_ble_eq_true rfl, Nat.le_of_ble_eq_true rfl⟩)) (fun r_1 hr_1 => ?_)
  have hr_1 : r_1 = zm_isBox M p1 := hr_1
  subst hr_1
  refine lv_if_ne (tgt := 11) hx hb dz_M_put_5 (by decide) (fun c_2 => ?_) (fun c_2 => ?_)
  · refine lv_iload_n hx hb dz_M_put_11 rfl (lv_at hl 2 rfl) ?_
    refine lv_i2l (v := p2.toInt64) hx hb dz_M_put_12 rfl ?_
    refine lv_lconst (v := 1) hx hb dz_M_put_13 (by decide) ?_
    refine lv_ldc2 (v := 9999) hx hb hown (hz _ zi_299) dz_M_put_14 ?_
    refine vp_callSi (va_Run.run (va_runS (As := [.long p2.toInt64, .long 1, .long 9999]) (rest := []) ⟨hx, hb, hml, hown, hz⟩ (ct_M_within l dC dI ci cj cz p2.toInt64 1 9999) (cwS 3 hz (zw_gS zi_279 zi_280 zi_35 zi_281) rfl rfl rfl (by decide +kernel) ⟨Nat.le_of_ble_eq_true rfl, Nat.le_of_ble_eq_true rfl⟩) (zw_preR zw_ns_ok (ws := []) (fun k q h => by simp at h) hK hN) rfl rfl hl.1 rfl (lv_room (Nat.le_of_ble_eq_true rfl)) dz_M_put_17 ⟨Nat.le_of_ble_eq_true rfl, Nat.le_of_ble_eq_true rfl⟩)) (fun r_3 hr_3 => ?_)
    have hr_3 : r_3 = zm_within p2.toInt64 1 9999 := hr_3
    subst hr_3
    refine lv_if_eq (tgt := 31) hx hb dz_M_put_20 (by decide) (fun c_4 => ?_) (fun c_4 => ?_)
    · refine lv_bipush (v := -12) hx hb dz_M_put_31 (by decide) ?_
      have hE_5 : zm_put M p1 p2 p3 = ((-12), M) := by simp only [zm_put, if_neg c_2, if_pos c_4]
      exact W.iret (v := (-12)) hx hb hr (fun t ht hW => ⟨⟨_, (), rfl, by show (-12) = (zm_put M p1 p2 p3).1; rw [hE_5], by show va_P (dC, dI) vwCl (zm_W ci cj cz h0 a ((zm_put M p1 p2 p3).2)) t.heap; rw [ht, hE_5]; exact hP, by show va_D A (zm_W ci cj cz h0 a ((zm_put M p1 p2 p3).2)); rw [hE_5]; exact hD⟩, hS.F ht⟩) hS.2.2 dz_M_put_33
    · refine lv_aload_n hx hb dz_M_put_23 rfl (lv_at hl 0 rfl) ?_
      refine lv_lload_n hx hb dz_M_put_24 rfl (lv_at hl 3 rfl) ?_
      refine vp_callSi (va_Run.run (va_runV (As := [.long p3]) (rest := []) ⟨hx, hb, hml, hown, hz⟩ (ct_M_isNoTime l dC dI ci cj cz h0 a M hok p3) (cwV 1 hz (zw_gV zi_300 zi_301 zi_27 zi_35 zi_302) rfl rfl rfl (by decide +kernel) ⟨Nat.le_of_ble_eq_true rfl, Nat.le_of_ble_eq_true rfl⟩) (zw_preRV zw_ns_ok hP hK hN (ci := 3) rfl (k := 0) rfl) rfl rfl hl.1 rfl (lv_room (Nat.le_of_ble_eq_true rfl)) dz_M_put_25 ⟨Nat.le_of_ble_eq_true rfl, Nat.le_of_ble_eq_true rfl⟩)) (fun r_6 hr_6 => ?_)
      have hr_6 : r_6 = zm_isNo M p3 := hr_6
      subst hr_6
      refine lv_if_eq (tgt := 34) hx hb dz_M_put_28 (by decide) (fun c_7 => ?_) (fun c_7 => ?_)
      · refine lv_aload_n hx hb dz_M_put_34 rfl (lv_at hl 0 rfl) ?_
        refine lv_lload_n hx hb dz_M_put_35 rfl (lv_at hl 3 rfl) ?_
        have hFc := zw_free hS hA hD
        refine va_callv (va_runV (As := [.long p3]) (rest := []) ⟨hx, hb, hml, hown, hz⟩ (ct_M_pass l dC dI ci cj cz h0 a M hok s.heap.size p3) (cwV 1 hz (zw_gV zi_303 zi_304 zi_28 zi_35 zi_305) rfl rfl rfl (by decide +kernel) ⟨Nat.le_of_ble_eq_true rfl, Nat.le_of_ble_eq_true rfl⟩) (zw_preUV zw_ns_ok hP hD hK hN (ci := 3) rfl (k := 0) rfl) rfl rfl hl.1 rfl (lv_room (Nat.le_of_ble_eq_true rfl)) dz_M_put_36 ⟨Nat.le_of_ble_eq_true rfl, Nat.le_of_ble_eq_true rfl⟩) hS (fun q _ h => hFc q h) hFc (fun u_8 t_8 H locs ht hvm hw hB hz1 hk1 hS => ?_)
        obtain ⟨hP, hD⟩ := hB
        rw [ht] at hP
        have hD := hD.weaken (fun _ q _ h => hFc q.1 h)
        obtain ⟨S_9, eS_9⟩ : ∃ z, z = (zm_pass M p3) := ⟨_, rfl⟩
        rw [← eS_9] at hP hD
        have hok : zm_ok S_9 := by rw [eS_9]; exact zm_ok_pass hok
        refine lv_iconst (v := 0) hx hb dz_M_put_39 (by decide) ?_
        refine lv_istore (lv' := [(5, .int 0), (0, .ref h0), (1, .int p1), (2, .int p2), (3, .long p3)]) hx hb dz_M_put_40 hl (by decide) rfl (fun ls hl => ?_)
        refine lv_iconst (v := nI (0 + 1)) hx hb dz_M_put_42 (by decide) ?_
        refine lv_istore (lv' := [(6, .int (nI (0 + 1))), (5, .int 0), (0, .ref h0), (1, .int p1), (2, .int p2), (3, .long p3)]) hx hb dz_M_put_43 hl (by decide) rfl (fun ls hl => ?_)
        have loop : ∀ (k j : Nat) (iv : Int32) (ls : Array Slot), j + k = zm_nb S_9 → zm_in S_9 p2 (zm_nb S_9) 0 0 = zm_in S_9 p2 k j iv → lv_has ls 7 [(6, .int (nI (j + 1))), (5, .int iv), (0, .ref h0), (1, .int p1), (2, .int p2), (3, .long p3)] → W p l e (headSpec wz_M_put (zw_room 2 0 0)).room s m ([.ref h0, .int p1, .int p2, .long p3] : List Value).toArray below meth c H locs 0 0 (MQ below (va_Qi (fun (r : Int32) (_ : Unit) => r = (zm_put M p1 p2 p3).1) (fun (_ : Unit) (t : State) => va_P (dC, dI) vwCl (zm_W ci cj cz h0 a ((zm_put M p1 p2 p3).2)) t.heap ∧ va_D A (zm_W ci cj cz h0 a ((zm_put M p1 p2 p3).2))) A) ([.ref h0, .int p1, .int p2, .long p3] : List Value).toArray s 0 0 A) (F0 m 45 ls []) := by
          intro k
          induction k with
          | zero =>
            intro j iv ls hjk hinv hl
            refine lv_iload hx hb dz_M_put_45 (lv_at hl 0 rfl) ?_
            refine lv_aload_n hx hb dz_M_put_47 rfl (lv_at hl 2 rfl) ?_
            refine va_get (D := (dC, dI)) (ci := 3) (v := .int (nI (zm_nb S_9))) (C := RzM) (T := TzM) (N := 18) hx hb hz inzM hown hK hP 0 rfl rfl 0 (by decide) (hz _ zi_236) (fun _ h9 => h9) rfl dz_M_put_48 ?_
            refine lv_icmp_gt (tgt := 83) hx hb dz_M_put_51 (by decide) (fun c_10 => ?_) (fun c_10 => ?_)
            · have hinv : zm_in S_9 p2 (zm_nb S_9) 0 0 = iv := hinv
              subst hinv
              refine lv_aload_n hx hb dz_M_put_83 rfl (lv_at hl 2 rfl) ?_
              refine va_get (D := (dC, dI)) (ci := 3) (v := .ref a.2.1) (C := RzM) (T := TzM) (N := 18) hx hb hz inzM hown hK hP 0 rfl rfl 2 (by decide) (hz _ zi_238) (fun _ h9 => h9) rfl dz_M_put_84 ?_
              refine lv_iload_n hx hb dz_M_put_87 rfl (lv_at hl 3 rfl) ?_
              have hin_11 : vp_in p1 61 := zm_isBox_in hok0 c_2
              refine va_iald hx hb hK hP 2 0 rfl rfl hin_11 dz_M_put_88 ?_
              refine lv_iconst (v := 1) hx hb dz_M_put_89 (by decide) ?_
              refine lv_icmp_ne (tgt := 107) hx hb dz_M_put_90 (by decide) (fun c_12 => ?_) (fun c_12 => ?_)
              · refine lv_iconst (v := 0) hx hb dz_M_put_107 (by decide) ?_
                have hE_13 : zm_put M p1 p2 p3 = (0, S_9) := by subst eS_9; simp only [zm_put, if_neg c_2, if_neg c_4, if_pos c_7, if_neg c_12]
                exact W.iret (v := 0) hx hb hr (fun t ht hW => ⟨⟨_, (), rfl, by show 0 = (zm_put M p1 p2 p3).1; rw [hE_13], by show va_P (dC, dI) vwCl (zm_W ci cj cz h0 a ((zm_put M p1 p2 p3).2)) t.heap; rw [ht, hE_13]; exact hP, by show va_D A (zm_W ci cj cz h0 a ((zm_put M p1 p2 p3).2)); rw [hE_13]; exact hD⟩, hS.F ht⟩) hS.2.2 dz_M_put_108
              · refine lv_aload_n hx hb dz_M_put_93 rfl (lv_at hl 2 rfl) ?_
                refine va_get (D := (dC, dI)) (ci := 3) (v := .ref a.2.2.2.2.1) (C := RzM) (T := TzM) (N := 18) hx hb hz inzM hown hK hP 0 rfl rfl 5 (by decide) (hz _ zi_241) (fun _ h9 => h9) rfl dz_M_put_94 ?_
                refine lv_iload_n hx hb dz_M_put_97 rfl (lv_at hl 3 rfl) ?_
                have hin_14 : vp_in p1 61 := zm_isBox_in hok0 c_2
                refine va_iald hx hb hK hP 5 0 rfl rfl hin_14 dz_M_put_98 ?_
                refine lv_if_gt (tgt := 107) hx hb dz_M_put_99 (by decide) (fun c_15 => ?_) (fun c_15 => ?_)
                · refine lv_iconst (v := 0) hx hb dz_M_put_107 (by decide) ?_
                  have hE_16 : zm_put M p1 p2 p3 = (0, S_9) := by subst eS_9; simp only [zm_put, if_neg c_2, if_neg c_4, if_pos c_7, if_pos c_12, if_pos c_15]
                  exact W.iret (v := 0) hx hb hr (fun t ht hW => ⟨⟨_, (), rfl, by show 0 = (zm_put M p1 p2 p3).1; rw [hE_16], by show va_P (dC, dI) vwCl (zm_W ci cj cz h0 a ((zm_put M p1 p2 p3).2)) t.heap; rw [ht, hE_16]; exact hP, by show va_D A (zm_W ci cj cz h0 a ((zm_put M p1 p2 p3).2)); rw [hE_16]; exact hD⟩, hS.F ht⟩) hS.2.2 dz_M_put_108
                · refine lv_iload hx hb dz_M_put_102 (lv_at hl 1 rfl) ?_
                  refine lv_if_eq (tgt := 109) hx hb dz_M_put_104 (by decide) (fun c_17 => ?_) (fun c_17 => ?_)
                  · refine lv_aload_n hx hb dz_M_put_109 rfl (lv_at hl 2 rfl) ?_
                    refine va_get (D := (dC, dI)) (ci := 3) (v := .ref a.2.2.2.2.1) (C := RzM) (T := TzM) (N := 18) hx hb hz inzM hown hK hP 0 rfl rfl 5 (by decide) (hz _ zi_241) (fun _ h9 => h9) rfl dz_M_put_110 ?_
                    refine lv_iload_n hx hb dz_M_put_113 rfl (lv_at hl 3 rfl) ?_
                    refine lv_iload_n hx hb dz_M_put_114 rfl (lv_at hl 4 rfl) ?_
                    have hin_18 : vp_in p1 61 := zm_isBox_in hok0 c_2
                    refine va_iast hx hb hK hP hD hS 5 0 rfl rfl hin_18 dz_M_put_115 (fun H locs hP hD hS => ?_)
                    obtain ⟨S_19, eS_19⟩ : ∃ z, z = zm_sit S_9 (upd (zm_it S_9) p1.toNatClampNeg p2) := ⟨_, rfl⟩
                    have hP : va_P (dC, dI) vwCl (zm_W ci cj cz h0 a S_19) H := by rw [eS_19]; exact hP
                    have hD : va_D A (zm_W ci cj cz h0 a S_19) := by rw [eS_19]; exact hD
                    have hok : zm_ok S_19 := by rw [eS_19]; exact hok
                    refine lv_aload_n hx hb dz_M_put_116 rfl (lv_at hl 2 rfl) ?_
                    refine va_get (D := (dC, dI)) (ci := 3) (v := .ref a.2.2.2.2.2.2.2.2.1) (C := RzM) (T := TzM) (N := 18) hx hb hz inzM hown hK hP 0 rfl rfl 9 (by decide) (hz _ zi_245) (fun _ h9 => h9) rfl dz_M_put_117 ?_
                    refine lv_iload_n hx hb dz_M_put_120 rfl (lv_at hl 3 rfl) ?_
                    refine lv_lconst (v := 0) hx hb dz_M_put_121 (by decide) ?_
                    have hin_20 : vp_in p1 61 := zm_isBox_in hok0 c_2
                    refine va_last hx hb hK hP hD hS 9 1 rfl rfl hin_20 dz_M_put_122 (fun H locs hP hD hS => ?_)
                    obtain ⟨S_21, eS_21⟩ : ∃ z, z = zm_ske S_19 (vp_updL (zm_ke S_19) p1.toNatClampNeg 0) := ⟨_, rfl⟩
                    have hP : va_P (dC, dI) vwCl (zm_W ci cj cz h0 a S_21) H := by rw [eS_21]; exact hP
                    have hD : va_D A (zm_W ci cj cz h0 a S_21) := by rw [eS_21]; exact hD
                    have hok : zm_ok S_21 := by rw [eS_21]; exact hok
                    refine lv_iconst (v := 1) hx hb dz_M_put_123 (by decide) ?_
                    have hE_22 : zm_put M p1 p2 p3 = (1, S_21) := by subst eS_9 eS_19 eS_21; simp only [zm_put, if_neg c_2, if_neg c_4, if_pos c_7, if_pos c_12, if_neg c_15, if_pos c_17]
                    exact W.iret (v := 1) hx hb hr (fun t ht hW => ⟨⟨_, (), rfl, by show 1 = (zm_put M p1 p2 p3).1; rw [hE_22], by show va_P (dC, dI) vwCl (zm_W ci cj cz h0 a ((zm_put M p1 p2 p3).2)) t.heap; rw [ht, hE_22]; exact hP, by show va_D A (zm_W ci cj cz h0 a ((zm_put M p1 p2 p3).2)); rw [hE_22]; exact hD⟩, hS.F ht⟩) hS.2.2 dz_M_put_124
                  · refine lv_iconst (v := 0) hx hb dz_M_put_107 (by decide) ?_
                    have hE_23 : zm_put M p1 p2 p3 = (0, S_9) := by subst eS_9; simp only [zm_put, if_neg c_2, if_neg c_4, if_pos c_7, if_pos c_12, if_neg c_15, if_neg c_17]
                    exact W.iret (v := 0) hx hb hr (fun t ht hW => ⟨⟨_, (), rfl, by show 0 = (zm_put M p1 p2 p3).1; rw [hE_23], by show va_P (dC, dI) vwCl (zm_W ci cj cz h0 a ((zm_put M p1 p2 p3).2)) t.heap; rw [ht, hE_23]; exact hP, by show va_D A (zm_W ci cj cz h0 a ((zm_put M p1 p2 p3).2)); rw [hE_23]; exact hD⟩, hS.F ht⟩) hS.2.2 dz_M_put_108
            · exact absurd (nI_lt (by omega) (by have := hok.1; omega)) c_10
          | succ k ih =>
            intro j iv ls hjk hinv hl
            have hj : j < zm_nb S_9 := by omega
            refine lv_iload hx hb dz_M_put_45 (lv_at hl 0 rfl) ?_
            refine lv_aload_n hx hb dz_M_put_47 rfl (lv_at hl 2 rfl) ?_
            refine va_get (D := (dC, dI)) (ci := 3) (v := .int (nI (zm_nb S_9))) (C := RzM) (T := TzM) (N := 18) hx hb hz inzM hown hK hP 0 rfl rfl 0 (by decide) (hz _ zi_236) (fun _ h9 => h9) rfl dz_M_put_48 ?_
            refine lv_icmp_gt (tgt := 83) hx hb dz_M_put_51 (by decide) (fun c_24 => ?_) (fun c_24 => ?_)
            · exact absurd c_24 (nI_nlt (by omega) (by have := hok.1; omega))
            · refine lv_iload hx hb dz_M_put_54 (lv_at hl 1 rfl) ?_
              refine lv_if_ne (tgt := 70) hx hb dz_M_put_56 (by decide) (fun c_25 => ?_) (fun c_25 => ?_)
              · refine lv_iconst (v := 1) hx hb dz_M_put_70 (by decide) ?_
                refine lv_goto (tgt := 75) hx hb dz_M_put_71 (by decide) ?_
                refine lv_istore (lv' := [(5, .int 1), (6, .int (nI (j + 1))), (0, .ref h0), (1, .int p1), (2, .int p2), (3, .long p3)]) hx hb dz_M_put_75 hl (by decide) rfl (fun ls hl => ?_)
                refine lv_iinc (v := nI (j + 1 + 1)) (lv' := [(6, .int (nI (j + 1 + 1))), (5, .int 1), (0, .ref h0), (1, .int p1), (2, .int p2), (3, .long p3)]) hx hb dz_M_put_77 hl (k := 1) rfl (nI_1 _) (by decide) rfl (fun ls hl => ?_)
                refine lv_goto (tgt := 45) hx hb dz_M_put_80 (by decide) ?_
                exact ih (j + 1) 1 ls (by omega) (by rw [hinv]; simp only [zm_in, if_neg c_25]) (lv_sub hl [0, 1, 2, 3, 4, 5] rfl)
              · refine lv_aload_n hx hb dz_M_put_59 rfl (lv_at hl 2 rfl) ?_
                refine va_get (D := (dC, dI)) (ci := 3) (v := .ref a.2.2.2.2.1) (C := RzM) (T := TzM) (N := 18) hx hb hz inzM hown hK hP 0 rfl rfl 5 (by decide) (hz _ zi_241) (fun _ h9 => h9) rfl dz_M_put_60 ?_
                refine lv_iload hx hb dz_M_put_63 (lv_at hl 0 rfl) ?_
                have hin_26 : vp_in (nI (j + 1)) 61 := vp_in_nI (by have := hok.1; omega) (by decide)
                refine va_iald hx hb hK hP 5 0 rfl rfl hin_26 dz_M_put_65 ?_
                refine W.eq (g2 := F0 m 66 ls [.int (zm_it S_9 (j + 1))]) (congrArg (fun z => F0 m 66 ls (.int ((zm_it S_9) z) :: [])) (nI_clamp (by have := hok.1; have := hok.2.1; have := hok.2.2; omega))) ?_
                refine lv_iload_n hx hb dz_M_put_66 rfl (lv_at hl 4 rfl) ?_
                refine lv_icmp_ne (tgt := 74) hx hb dz_M_put_67 (by decide) (fun c_27 => ?_) (fun c_27 => ?_)
                · refine lv_iconst (v := 0) hx hb dz_M_put_74 (by decide) ?_
                  refine lv_istore (lv' := [(5, .int 0), (6, .int (nI (j + 1))), (0, .ref h0), (1, .int p1), (2, .int p2), (3, .long p3)]) hx hb dz_M_put_75 hl (by decide) rfl (fun ls hl => ?_)
                  refine lv_iinc (v := nI (j + 1 + 1)) (lv' := [(6, .int (nI (j + 1 + 1))), (5, .int 0), (0, .ref h0), (1, .int p1), (2, .int p2), (3, .long p3)]) hx hb dz_M_put_77 hl (k := 1) rfl (nI_1 _) (by decide) rfl (fun ls hl => ?_)
                  refine lv_goto (tgt := 45) hx hb dz_M_put_80 (by decide) ?_
                  exact ih (j + 1) 0 ls (by omega) (by rw [hinv]; simp only [zm_in, if_pos c_25, if_neg c_27]) (lv_sub hl [0, 1, 2, 3, 4, 5] rfl)
                · refine lv_iconst (v := 1) hx hb dz_M_put_70 (by decide) ?_
                  refine lv_goto (tgt := 75) hx hb dz_M_put_71 (by decide) ?_
                  refine lv_istore (lv' := [(5, .int 1), (6, .int (nI (j + 1))), (0, .ref h0), (1, .int p1), (2, .int p2), (3, .long p3)]) hx hb dz_M_put_75 hl (by decide) rfl (fun ls hl => ?_)
                  refine lv_iinc (v := nI (j + 1 + 1)) (lv' := [(6, .int (nI (j + 1 + 1))), (5, .int 1), (0, .ref h0), (1, .int p1), (2, .int p2), (3, .long p3)]) hx hb dz_M_put_77 hl (k := 1) rfl (nI_1 _) (by decide) rfl (fun ls hl => ?_)
                  refine lv_goto (tgt := 45) hx hb dz_M_put_80 (by decide) ?_
                  exact ih (j + 1) 1 ls (by omega) (by rw [hinv]; simp only [zm_in, if_pos c_25, if_pos c_27]) (lv_sub hl [0, 1, 2, 3, 4, 5] rfl)
        exact loop (zm_nb S_9) 0 0 ls (by omega) rfl (lv_sub hl [0, 1, 2, 3, 4, 5] rfl)
      · refine lv_bipush (v := -12) hx hb dz_M_put_31 (by decide) ?_
        have hE_28 : zm_put M p1 p2 p3 = ((-12), M) := by simp only [zm_put, if_neg c_2, if_neg c_4, if_neg c_7]
        exact W.iret (v := (-12)) hx hb hr (fun t ht hW => ⟨⟨_, (), rfl, by show (-12) = (zm_put M p1 p2 p3).1; rw [hE_28], by show va_P (dC, dI) vwCl (zm_W ci cj cz h0 a ((zm_put M p1 p2 p3).2)) t.heap; rw [ht, hE_28]; exact hP, by show va_D A (zm_W ci cj cz h0 a ((zm_put M p1 p2 p3).2)); rw [hE_28]; exact hD⟩, hS.F ht⟩) hS.2.2 dz_M_put_33
  · refine lv_bipush (v := -11) hx hb dz_M_put_8 (by decide) ?_
    have hE_29 : zm_put M p1 p2 p3 = ((-11), M) := by simp only [zm_put, if_pos c_2]
    exact W.iret (v := (-11)) hx hb hr (fun t ht hW => ⟨⟨_, (), rfl, by show (-11) = (zm_put M p1 p2 p3).1; rw [hE_29], by show va_P (dC, dI) vwCl (zm_W ci cj cz h0 a ((zm_put M p1 p2 p3).2)) t.heap; rw [ht, hE_29]; exact hP, by show va_D A (zm_W ci cj cz h0 a ((zm_put M p1 p2 p3).2)); rw [hE_29]; exact hD⟩, hS.F ht⟩) hS.2.2 dz_M_put_10
set_option maxHeartbeats 4000000 in
set_option maxRecDepth 100000 in
theorem ct_M_type (l : Launch) (dC : Nat → ClassId) (dI : Nat → Nat → Nat) (ci cj cz : ClassId) (h0 : Nat) (a : zm_Ad) (M : zm_S) (hok : zm_ok M) (sz : Nat) (p1 : Int32) (p2 : Int64) : Met l yz_M_type wz_M_type (zw_room 1 0 0) (zw_U zw_ns (dC, dI) vwCl (zm_tys ci cj cz) [.ref h0, .int p1, .long p2] (zm_W ci cj cz h0 a M) sz) (va_Qi (fun (r : Int32) (_ : Unit) => r = (zm_type M p1 p2).1) (fun (_ : Unit) (t : State) => va_P (dC, dI) vwCl (zm_W ci cj cz h0 a ((zm_type M p1 p2).2)) t.heap ∧ va_D (va_A (zm_W ci cj cz h0 a M) sz) (zm_W ci cj cz h0 a ((zm_type M p1 p2).2))) (va_A (zm_W ci cj cz h0 a M) sz)) 0 0 (va_A (zm_W ci cj cz h0 a M) sz) := by
  refine Met.ofW (cc := cz_M_type) (maxL := 5) (ret := (some .int)) (by decide) rfl ?_
  intro p e s m args below meth c s₁ B hml hv
  obtain ⟨rfl, hsz, hP, hK, hD0, hN⟩ := hv
  have hx := B.exec
  have hb := B.bytes
  have hr := B.returns
  have hts := atoms_spec (ws := wz_M_type) B.pre
  have hz : ∀ w ∈ zw_T, w.before ([.ref h0, .int p1, .long p2] : List Value).toArray s = true := fun w h => hts w (List.mem_cons_of_mem _ h)
  have hown : s.vm.findClass RzM = some m.cls := findClass_of_methodNamed B.named
  have hlocks := B.notSynchronized
  have hok0 := hok
  subst hsz
  have hD := hD0.self (sz := s.heap.size)
  generalize hAe : va_A (zm_W ci cj cz h0 a M) s.heap.size = A at hD ⊢
  have hA : ∀ q : Nat, s.heap.size ≤ q → A q := fun q h => by rw [← hAe]; exact Or.inr h
  have hS : va_S A s.heap s.heap [] := va_S.rf
  have hl := lv_entry ([.ref h0, .int p1, .long p2]) (n := 5) (Nat.le_of_ble_eq_true rfl)
  rw [lg_entry_eq]
  generalize (lg_sl ([.ref h0, .int p1, .long p2]) ++ List.replicate (5 - (lg_sl ([.ref h0, .int p1, .long p2])).length) Slot.unset).toArray = ls at hl ⊢
  have hl : lv_has ls 5 [(0, .ref h0), (1, .int p1), (2, .long p2)] := hl
  refine lv_iload_n hx hb dz_M_type_0 rfl (lv_at hl 1 rfl) ?_
  refine lv_i2l (v := p1.toInt64) hx hb dz_M_type_1 rfl ?_
  refine lv_lconst (v := 0) hx hb dz_M_type_2 (by decide) ?_
  refine lv_ldc2 (v := 999999) hx hb hown (hz _ zi_286) dz_M_type_3 ?_
  refine vp_callSi (va_Run.run (va_runS (As := [.long p1.toInt64, .long 0, .long 999999]) (rest := []) ⟨hx, hb, hml, hown, hz⟩ (ct_M_within l dC dI ci cj cz p1.toInt64 0 999999) (cwS 3 hz (zw_gS zi_279 zi_280 zi_35 zi_281) rfl rfl rfl (by decide +kernel) ⟨Nat.le_of_ble_eq_true rfl, Nat.le_of_ble_eq_true rfl⟩) (zw_preR zw_ns_ok (ws := []) (fun k q h => by simp at h) hK hN) rfl rfl hl.1 rfl (lv_room (Nat.le_of_ble_eq_true rfl)) dz_M_type_6 ⟨Nat.le_of_ble_eq_true rfl, Nat.le_of_ble_eq_true rfl⟩)) (fun r_1 hr_1 => ?_)
  have hr_1 : r_1 = zm_within p1.toInt64 0 999999 := hr_1
  subst hr_1
  refine lv_if_eq (tgt := 20) hx hb dz_M_type_9 (by decide) (fun c_2 => ?_) (fun c_2 => ?_)
  · refine lv_bipush (v := -12) hx hb dz_M_type_20 (by decide) ?_
    have hE_3 : zm_type M p1 p2 = ((-12), M) := by simp only [zm_type, if_pos c_2]
    exact W.iret (v := (-12)) hx hb hr (fun t ht hW => ⟨⟨_, (), rfl, by show (-12) = (zm_type M p1 p2).1; rw [hE_3], by show va_P (dC, dI) vwCl (zm_W ci cj cz h0 a ((zm_type M p1 p2).2)) t.heap; rw [ht, hE_3]; exact hP, by show va_D A (zm_W ci cj cz h0 a ((zm_type M p1 p2).2)); rw [hE_3]; exact hD⟩, hS.F ht⟩) hS.2.2 dz_M_type_22
  · refine lv_aload_n hx hb dz_M_type_12 rfl (lv_at hl 0 rfl) ?_
    refine lv_lload_n hx hb dz_M_type_13 rfl (lv_at hl 2 rfl) ?_
    refine vp_callSi (va_Run.run (va_runV (As := [.long p2]) (rest := []) ⟨hx, hb, hml, hown, hz⟩ (ct_M_isNoTime l dC dI ci cj cz h0 a M hok p2) (cwV 1 hz (zw_gV zi_300 zi_301 zi_27 zi_35 zi_302) rfl rfl rfl (by decide +kernel) ⟨Nat.le_of_ble_eq_true rfl, Nat.le_of_ble_eq_true rfl⟩) (zw_preRV zw_ns_ok hP hK hN (ci := 3) rfl (k := 0) rfl) rfl rfl hl.1 rfl (lv_room (Nat.le_of_ble_eq_true rfl)) dz_M_type_14 ⟨Nat.le_of_ble_eq_true rfl, Nat.le_of_ble_eq_true rfl⟩)) (fun r_4 hr_4 => ?_)
    have hr_4 : r_4 = zm_isNo M p2 := hr_4
    subst hr_4
    refine lv_if_eq (tgt := 23) hx hb dz_M_type_17 (by decide) (fun c_5 => ?_) (fun c_5 => ?_)
    · refine lv_aload_n hx hb dz_M_type_23 rfl (lv_at hl 0 rfl) ?_
      refine lv_lload_n hx hb dz_M_type_24 rfl (lv_at hl 2 rfl) ?_
      have hFc := zw_free hS hA hD
      refine va_callv (va_runV (As := [.long p2]) (rest := []) ⟨hx, hb, hml, hown, hz⟩ (ct_M_pass l dC dI ci cj cz h0 a M hok s.heap.size p2) (cwV 1 hz (zw_gV zi_303 zi_304 zi_28 zi_35 zi_305) rfl rfl rfl (by decide +kernel) ⟨Nat.le_of_ble_eq_true rfl, Nat.le_of_ble_eq_true rfl⟩) (zw_preUV zw_ns_ok hP hD hK hN (ci := 3) rfl (k := 0) rfl) rfl rfl hl.1 rfl (lv_room (Nat.le_of_ble_eq_true rfl)) dz_M_type_25 ⟨Nat.le_of_ble_eq_true rfl, Nat.le_of_ble_eq_true rfl⟩) hS (fun q _ h => hFc q h) hFc (fun u_6 t_6 H locs ht hvm hw hB hz1 hk1 hS => ?_)
      obtain ⟨hP, hD⟩ := hB
      rw [ht] at hP
      have hD := hD.weaken (fun _ q _ h => hFc q.1 h)
      obtain ⟨S_7, eS_7⟩ : ∃ z, z = (zm_pass M p2) := ⟨_, rfl⟩
      rw [← eS_7] at hP hD
      have hok : zm_ok S_7 := by rw [eS_7]; exact zm_ok_pass hok
      refine lv_lload_n hx hb dz_M_type_28 rfl (lv_at hl 2 rfl) ?_
      refine lv_aload_n hx hb dz_M_type_29 rfl (lv_at hl 0 rfl) ?_
      refine va_get (D := (dC, dI)) (ci := 3) (v := .long (zm_K S_7)) (C := RzM) (T := TzM) (N := 18) hx hb hz inzM hown hK hP 0 rfl rfl 13 (by decide) (hz _ zi_249) (fun _ h9 => h9) rfl dz_M_type_30 ?_
      refine W.lcmp hx hb dz_M_type_33 ?_
      refine lv_if_ge (tgt := 39) hx hb dz_M_type_34 (by decide) (fun c_8 => ?_) (fun c_8 => ?_)
      · refine lv_iconst (v := nI (0 + 1)) hx hb dz_M_type_39 (by decide) ?_
        refine lv_istore (lv' := [(4, .int (nI (0 + 1))), (0, .ref h0), (1, .int p1), (2, .long p2)]) hx hb dz_M_type_40 hl (by decide) rfl (fun ls hl => ?_)
        have loop : ∀ (k j : Nat) (ls : Array Slot), j + k = zm_nb S_7 → zm_ty S_7 p1 p2 (zm_nb S_7) 0 = zm_ty S_7 p1 p2 k j → lv_has ls 5 [(4, .int (nI (j + 1))), (0, .ref h0), (1, .int p1), (2, .long p2)] → W p l e (headSpec wz_M_type (zw_room 1 0 0)).room s m ([.ref h0, .int p1, .long p2] : List Value).toArray below meth c H locs 0 0 (MQ below (va_Qi (fun (r : Int32) (_ : Unit) => r = (zm_type M p1 p2).1) (fun (_ : Unit) (t : State) => va_P (dC, dI) vwCl (zm_W ci cj cz h0 a ((zm_type M p1 p2).2)) t.heap ∧ va_D A (zm_W ci cj cz h0 a ((zm_type M p1 p2).2))) A) ([.ref h0, .int p1, .long p2] : List Value).toArray s 0 0 A) (F0 m 42 ls []) := by
          intro k
          induction k with
          | zero =>
            intro j ls hjk hinv hl
            refine lv_iload hx hb dz_M_type_42 (lv_at hl 0 rfl) ?_
            refine lv_aload_n hx hb dz_M_type_44 rfl (lv_at hl 1 rfl) ?_
            refine va_get (D := (dC, dI)) (ci := 3) (v := .int (nI (zm_nb S_7))) (C := RzM) (T := TzM) (N := 18) hx hb hz inzM hown hK hP 0 rfl rfl 0 (by decide) (hz _ zi_236) (fun _ h9 => h9) rfl dz_M_type_45 ?_
            refine lv_icmp_gt (tgt := 100) hx hb dz_M_type_48 (by decide) (fun c_9 => ?_) (fun c_9 => ?_)
            · refine lv_aload_n hx hb dz_M_type_100 rfl (lv_at hl 1 rfl) ?_
              refine lv_dup hx hb dz_M_type_101 rfl ?_
              refine va_get (D := (dC, dI)) (ci := 3) (v := .int (zm_R S_7)) (C := RzM) (T := TzM) (N := 18) hx hb hz inzM hown hK hP 0 rfl rfl 12 (by decide) (hz _ zi_248) (fun _ h9 => h9) rfl dz_M_type_102 ?_
              refine lv_iconst (v := 1) hx hb dz_M_type_105 (by decide) ?_
              refine lv_iadd hx hb dz_M_type_106 ?_
              refine va_put (D := (dC, dI)) (ci := 3) (v := .int ((zm_R S_7) + 1)) (ty := .int) (C := RzM) (T := TzM) (N := 18) hx hb hz inzM tyzM tyzM_ok nmzM hown hK hP hD hS 0 rfl rfl 12 (by decide) (hz _ zi_248) (fun _ h9 => h9) rfl (by decide +kernel) rfl rfl (Nat.le_of_ble_eq_true rfl) dz_M_type_107 (fun H locs hP hD hS => ?_)
              obtain ⟨S_10, eS_10⟩ : ∃ z, z = zm_sR S_7 ((zm_R S_7) + 1) := ⟨_, rfl⟩
              have hP : va_P (dC, dI) vwCl (zm_W ci cj cz h0 a S_10) H := by rw [eS_10]; exact hP
              have hD : va_D A (zm_W ci cj cz h0 a S_10) := by rw [eS_10]; exact hD
              have hok : zm_ok S_10 := by rw [eS_10]; exact hok
              refine lv_aload_n hx hb dz_M_type_110 rfl (lv_at hl 1 rfl) ?_
              refine va_get (D := (dC, dI)) (ci := 3) (v := .int (zm_R S_10)) (C := RzM) (T := TzM) (N := 18) hx hb hz inzM hown hK hP 0 rfl rfl 12 (by decide) (hz _ zi_248) (fun _ h9 => h9) rfl dz_M_type_111 ?_
              refine lv_iconst (v := 3) hx hb dz_M_type_114 (by decide) ?_
              refine lv_icmp_ne (tgt := 132) hx hb dz_M_type_115 (by decide) (fun c_11 => ?_) (fun c_11 => ?_)
              · refine lv_iconst (v := 0) hx hb dz_M_type_132 (by decide) ?_
                have hE_12 : zm_type M p1 p2 = (0, S_10) := by subst eS_7 eS_10; simp only [zm_type, if_neg c_2, if_pos c_5, if_pos c_8]; rw [hinv]; simp only [zm_ty, zm_wr, if_neg c_11]
                exact W.iret (v := 0) hx hb hr (fun t ht hW => ⟨⟨_, (), rfl, by show 0 = (zm_type M p1 p2).1; rw [hE_12], by show va_P (dC, dI) vwCl (zm_W ci cj cz h0 a ((zm_type M p1 p2).2)) t.heap; rw [ht, hE_12]; exact hP, by show va_D A (zm_W ci cj cz h0 a ((zm_type M p1 p2).2)); rw [hE_12]; exact hD⟩, hS.F ht⟩) hS.2.2 dz_M_type_133
              · refine lv_aload_n hx hb dz_M_type_118 rfl (lv_at hl 1 rfl) ?_
                refine lv_iconst (v := 0) hx hb dz_M_type_119 (by decide) ?_
                refine va_put (D := (dC, dI)) (ci := 3) (v := .int 0) (ty := .int) (C := RzM) (T := TzM) (N := 18) hx hb hz inzM tyzM tyzM_ok nmzM hown hK hP hD hS 0 rfl rfl 12 (by decide) (hz _ zi_248) (fun _ h9 => h9) rfl (by decide +kernel) rfl rfl (Nat.le_of_ble_eq_true rfl) dz_M_type_120 (fun H locs hP hD hS => ?_)
                obtain ⟨S_13, eS_13⟩ : ∃ z, z = zm_sR S_10 0 := ⟨_, rfl⟩
                have hP : va_P (dC, dI) vwCl (zm_W ci cj cz h0 a S_13) H := by rw [eS_13]; exact hP
                have hD : va_D A (zm_W ci cj cz h0 a S_13) := by rw [eS_13]; exact hD
                have hok : zm_ok S_13 := by rw [eS_13]; exact hok
                refine lv_aload_n hx hb dz_M_type_123 rfl (lv_at hl 1 rfl) ?_
                refine lv_lload_n hx hb dz_M_type_124 rfl (lv_at hl 3 rfl) ?_
                refine lv_ldc2 (v := 300) hx hb hown (hz _ zi_325) dz_M_type_125 ?_
                refine lv_ladd hx hb dz_M_type_128 ?_
                refine va_put (D := (dC, dI)) (ci := 3) (v := .long (p2 + 300)) (ty := .long) (C := RzM) (T := TzM) (N := 18) hx hb hz inzM tyzM tyzM_ok nmzM hown hK hP hD hS 0 rfl rfl 13 (by decide) (hz _ zi_249) (fun _ h9 => h9) rfl (by decide +kernel) rfl rfl (Nat.le_of_ble_eq_true rfl) dz_M_type_129 (fun H locs hP hD hS => ?_)
                obtain ⟨S_14, eS_14⟩ : ∃ z, z = zm_sK S_13 (p2 + 300) := ⟨_, rfl⟩
                have hP : va_P (dC, dI) vwCl (zm_W ci cj cz h0 a S_14) H := by rw [eS_14]; exact hP
                have hD : va_D A (zm_W ci cj cz h0 a S_14) := by rw [eS_14]; exact hD
                have hok : zm_ok S_14 := by rw [eS_14]; exact hok
                refine lv_iconst (v := 0) hx hb dz_M_type_132 (by decide) ?_
                have hE_15 : zm_type M p1 p2 = (0, S_14) := by subst eS_7 eS_10 eS_13 eS_14; simp only [zm_type, if_neg c_2, if_pos c_5, if_pos c_8]; rw [hinv]; simp only [zm_ty, zm_wr, if_pos c_11]
                exact W.iret (v := 0) hx hb hr (fun t ht hW => ⟨⟨_, (), rfl, by show 0 = (zm_type M p1 p2).1; rw [hE_15], by show va_P (dC, dI) vwCl (zm_W ci cj cz h0 a ((zm_type M p1 p2).2)) t.heap; rw [ht, hE_15]; exact hP, by show va_D A (zm_W ci cj cz h0 a ((zm_type M p1 p2).2)); rw [hE_15]; exact hD⟩, hS.F ht⟩) hS.2.2 dz_M_type_133
            · exact absurd (nI_lt (by omega) (by have := hok.1; omega)) c_9
          | succ k ih =>
            intro j ls hjk hinv hl
            have hj : j < zm_nb S_7 := by omega
            refine lv_iload hx hb dz_M_type_42 (lv_at hl 0 rfl) ?_
            refine lv_aload_n hx hb dz_M_type_44 rfl (lv_at hl 1 rfl) ?_
            refine va_get (D := (dC, dI)) (ci := 3) (v := .int (nI (zm_nb S_7))) (C := RzM) (T := TzM) (N := 18) hx hb hz inzM hown hK hP 0 rfl rfl 0 (by decide) (hz _ zi_236) (fun _ h9 => h9) rfl dz_M_type_45 ?_
            refine lv_icmp_gt (tgt := 100) hx hb dz_M_type_48 (by decide) (fun c_16 => ?_) (fun c_16 => ?_)
            · exact absurd c_16 (nI_nlt (by omega) (by have := hok.1; omega))
            · refine lv_aload_n hx hb dz_M_type_51 rfl (lv_at hl 1 rfl) ?_
              refine va_get (D := (dC, dI)) (ci := 3) (v := .ref a.2.2.2.2.2.1) (C := RzM) (T := TzM) (N := 18) hx hb hz inzM hown hK hP 0 rfl rfl 6 (by decide) (hz _ zi_242) (fun _ h9 => h9) rfl dz_M_type_52 ?_
              refine lv_iload hx hb dz_M_type_55 (lv_at hl 0 rfl) ?_
              have hin_17 : vp_in (nI (j + 1)) 61 := vp_in_nI (by have := hok.1; omega) (by decide)
              refine va_iald hx hb hK hP 6 0 rfl rfl hin_17 dz_M_type_57 ?_
              refine W.eq (g2 := F0 m 58 ls [.int (zm_co S_7 (j + 1))]) (congrArg (fun z => F0 m 58 ls (.int ((zm_co S_7) z) :: [])) (nI_clamp (by have := hok.1; have := hok.2.1; have := hok.2.2; omega))) ?_
              refine lv_iload_n hx hb dz_M_type_58 rfl (lv_at hl 2 rfl) ?_
              refine lv_icmp_ne (tgt := 94) hx hb dz_M_type_59 (by decide) (fun c_18 => ?_) (fun c_18 => ?_)
              · refine lv_iinc (v := nI (j + 1 + 1)) (lv' := [(4, .int (nI (j + 1 + 1))), (0, .ref h0), (1, .int p1), (2, .long p2)]) hx hb dz_M_type_94 hl (k := 0) rfl (nI_1 _) (by decide) rfl (fun ls hl => ?_)
                refine lv_goto (tgt := 42) hx hb dz_M_type_97 (by decide) ?_
                exact ih (j + 1) ls (by omega) (by rw [hinv]; simp only [zm_ty, if_neg c_18]) (lv_sub hl [0, 1, 2, 3] rfl)
              · refine lv_aload_n hx hb dz_M_type_62 rfl (lv_at hl 1 rfl) ?_
                refine va_get (D := (dC, dI)) (ci := 3) (v := .ref a.2.1) (C := RzM) (T := TzM) (N := 18) hx hb hz inzM hown hK hP 0 rfl rfl 2 (by decide) (hz _ zi_238) (fun _ h9 => h9) rfl dz_M_type_63 ?_
                refine lv_iload hx hb dz_M_type_66 (lv_at hl 0 rfl) ?_
                have hin_19 : vp_in (nI (j + 1)) 61 := vp_in_nI (by have := hok.1; omega) (by decide)
                refine va_iald hx hb hK hP 2 0 rfl rfl hin_19 dz_M_type_68 ?_
                refine W.eq (g2 := F0 m 69 ls [.int (zm_dr S_7 (j + 1))]) (congrArg (fun z => F0 m 69 ls (.int ((zm_dr S_7) z) :: [])) (nI_clamp (by have := hok.1; have := hok.2.1; have := hok.2.2; omega))) ?_
                refine lv_if_ne (tgt := 94) hx hb dz_M_type_69 (by decide) (fun c_20 => ?_) (fun c_20 => ?_)
                · refine lv_iinc (v := nI (j + 1 + 1)) (lv' := [(4, .int (nI (j + 1 + 1))), (0, .ref h0), (1, .int p1), (2, .long p2)]) hx hb dz_M_type_94 hl (k := 0) rfl (nI_1 _) (by decide) rfl (fun ls hl => ?_)
                  refine lv_goto (tgt := 42) hx hb dz_M_type_97 (by decide) ?_
                  exact ih (j + 1) ls (by omega) (by rw [hinv]; simp only [zm_ty, if_pos c_18, if_neg c_20]) (lv_sub hl [0, 1, 2, 3] rfl)
                · have hjin : vp_in (nI (j + 1)) 61 := vp_in_nI (by have := hok.1; omega) (by decide)
                  refine lv_aload_n hx hb dz_M_type_72 rfl (lv_at hl 1 rfl) ?_
                  refine lv_iload hx hb dz_M_type_73 (lv_at hl 0 rfl) ?_
                  have hFc := zw_free hS hA hD
                  refine va_calli (va_runV (As := [.int (nI (j + 1))]) (rest := []) ⟨hx, hb, hml, hown, hz⟩ (ct_M_out l dC dI ci cj cz h0 a S_7 hok H.size (nI (j + 1)) (vp_in_nI (by have := hok.1; omega) (by decide))) (cwV 1 hz (zw_gV zi_319 zi_320 zi_30 zi_35 zi_321) rfl rfl rfl (by decide +kernel) ⟨Nat.le_of_ble_eq_true rfl, Nat.le_of_ble_eq_true rfl⟩) (zw_preUV zw_ns_ok hP hD hK hN (ci := 3) rfl (k := 0) rfl) rfl rfl hl.1 rfl (lv_room (Nat.le_of_ble_eq_true rfl)) dz_M_type_75 ⟨Nat.le_of_ble_eq_true rfl, Nat.le_of_ble_eq_true rfl⟩) hS (fun q _ h => hFc q h) hFc (fun r_21 u_21 t_21 H locs ht hvm hw hB hz1 hk1 hS => ?_)
                  have hw : r_21 = (zm_out S_7 (nI (j + 1))).1 := hw
                  subst hw
                  obtain ⟨hP, hD⟩ := hB
                  rw [ht] at hP
                  have hD := hD.weaken (fun _ q _ h => hFc q.1 h)
                  obtain ⟨S_22, eS_22⟩ : ∃ z, z = (zm_out S_7 (nI (j + 1))).2 := ⟨_, rfl⟩
                  rw [← eS_22] at hP hD
                  have hok : zm_ok S_22 := by rw [eS_22]; exact zm_ok_out hok
                  refine lv_pop hx hb dz_M_type_78 rfl ?_
                  refine lv_aload_n hx hb dz_M_type_79 rfl (lv_at hl 1 rfl) ?_
                  refine lv_iload hx hb dz_M_type_80 (lv_at hl 0 rfl) ?_
                  refine lv_iconst (v := 1) hx hb dz_M_type_82 (by decide) ?_
                  have hFc := zw_free hS hA hD
                  refine va_callv (va_runV (As := [.int (nI (j + 1)), .int 1]) (rest := []) ⟨hx, hb, hml, hown, hz⟩ (ct_M_open l dC dI ci cj cz h0 a S_22 hok H.size (nI (j + 1)) 1 hjin) (cwV 2 hz (zw_gV zi_322 zi_323 zi_31 zi_35 zi_324) rfl rfl rfl (by decide +kernel) ⟨Nat.le_of_ble_eq_true rfl, Nat.le_of_ble_eq_true rfl⟩) (zw_preUV zw_ns_ok hP hD hK hN (ci := 3) rfl (k := 0) rfl) rfl rfl hl.1 rfl (lv_room (Nat.le_of_ble_eq_true rfl)) dz_M_type_83 ⟨Nat.le_of_ble_eq_true rfl, Nat.le_of_ble_eq_true rfl⟩) hS (fun q _ h => hFc q h) hFc (fun u_23 t_23 H locs ht hvm hw hB hz1 hk1 hS => ?_)
                  obtain ⟨hP, hD⟩ := hB
                  rw [ht] at hP
                  have hD := hD.weaken (fun _ q _ h => hFc q.1 h)
                  obtain ⟨S_24, eS_24⟩ : ∃ z, z = (zm_open S_22 (nI (j + 1)) 1) := ⟨_, rfl⟩
                  rw [← eS_24] at hP hD
                  have hok : zm_ok S_24 := by rw [eS_24]; exact zm_ok_open hok
                  refine lv_aload_n hx hb dz_M_type_86 rfl (lv_at hl 1 rfl) ?_
                  refine lv_iconst (v := 0) hx hb dz_M_type_87 (by decide) ?_
                  refine va_put (D := (dC, dI)) (ci := 3) (v := .int 0) (ty := .int) (C := RzM) (T := TzM) (N := 18) hx hb hz inzM tyzM tyzM_ok nmzM hown hK hP hD hS 0 rfl rfl 12 (by decide) (hz _ zi_248) (fun _ h9 => h9) rfl (by decide +kernel) rfl rfl (Nat.le_of_ble_eq_true rfl) dz_M_type_88 (fun H locs hP hD hS => ?_)
                  obtain ⟨S_25, eS_25⟩ : ∃ z, z = zm_sR S_24 0 := ⟨_, rfl⟩
                  have hP : va_P (dC, dI) vwCl (zm_W ci cj cz h0 a S_25) H := by rw [eS_25]; exact hP
                  have hD : va_D A (zm_W ci cj cz h0 a S_25) := by rw [eS_25]; exact hD
                  have hok : zm_ok S_25 := by rw [eS_25]; exact hok
                  refine lv_iload hx hb dz_M_type_91 (lv_at hl 0 rfl) ?_
                  have hE_26 : zm_type M p1 p2 = (nI (j + 1), S_25) := by subst eS_7 eS_22 eS_24 eS_25; simp only [zm_type, if_neg c_2, if_pos c_5, if_pos c_8]; rw [hinv]; simp only [zm_ty, if_pos c_18, if_pos c_20]
                  exact W.iret (v := nI (j + 1)) hx hb hr (fun t ht hW => ⟨⟨_, (), rfl, by show nI (j + 1) = (zm_type M p1 p2).1; rw [hE_26], by show va_P (dC, dI) vwCl (zm_W ci cj cz h0 a ((zm_type M p1 p2).2)) t.heap; rw [ht, hE_26]; exact hP, by show va_D A (zm_W ci cj cz h0 a ((zm_type M p1 p2).2)); rw [hE_26]; exact hD⟩, hS.F ht⟩) hS.2.2 dz_M_type_93
        exact loop (zm_nb S_7) 0 ls (by omega) rfl (lv_sub hl [0, 1, 2, 3] rfl)
      · refine lv_iconst (v := -1) hx hb dz_M_type_37 (by decide) ?_
        have hE_27 : zm_type M p1 p2 = ((-1), S_7) := by subst eS_7; simp only [zm_type, if_neg c_2, if_pos c_5, if_neg c_8]
        exact W.iret (v := (-1)) hx hb hr (fun t ht hW => ⟨⟨_, (), rfl, by show (-1) = (zm_type M p1 p2).1; rw [hE_27], by show va_P (dC, dI) vwCl (zm_W ci cj cz h0 a ((zm_type M p1 p2).2)) t.heap; rw [ht, hE_27]; exact hP, by show va_D A (zm_W ci cj cz h0 a ((zm_type M p1 p2).2)); rw [hE_27]; exact hD⟩, hS.F ht⟩) hS.2.2 dz_M_type_38
    · refine lv_bipush (v := -12) hx hb dz_M_type_20 (by decide) ?_
      have hE_28 : zm_type M p1 p2 = ((-12), M) := by simp only [zm_type, if_neg c_2, if_neg c_5]
      exact W.iret (v := (-12)) hx hb hr (fun t ht hW => ⟨⟨_, (), rfl, by show (-12) = (zm_type M p1 p2).1; rw [hE_28], by show va_P (dC, dI) vwCl (zm_W ci cj cz h0 a ((zm_type M p1 p2).2)) t.heap; rw [ht, hE_28]; exact hP, by show va_D A (zm_W ci cj cz h0 a ((zm_type M p1 p2).2)); rw [hE_28]; exact hD⟩, hS.F ht⟩) hS.2.2 dz_M_type_22
set_option maxHeartbeats 4000000 in
set_option maxRecDepth 100000 in
theorem ct_M_tick (l : Launch) (dC : Nat → ClassId) (dI : Nat → Nat → Nat) (ci cj cz : ClassId) (h0 : Nat) (a : zm_Ad) (M : zm_S) (hok : zm_ok M) (sz : Nat) (p1 : Int64) : Met l yz_M_tick wz_M_tick (zw_room 1 0 0) (zw_U zw_ns (dC, dI) vwCl (zm_tys ci cj cz) [.ref h0, .long p1] (zm_W ci cj cz h0 a M) sz) (va_Qi (fun (r : Int32) (_ : Unit) => r = (zm_tick M p1).1) (fun (_ : Unit) (t : State) => va_P (dC, dI) vwCl (zm_W ci cj cz h0 a ((zm_tick M p1).2)) t.heap ∧ va_D (va_A (zm_W ci cj cz h0 a M) sz) (zm_W ci cj cz h0 a ((zm_tick M p1).2))) (va_A (zm_W ci cj cz h0 a M) sz)) 0 0 (va_A (zm_W ci cj cz h0 a M) sz) := by
  refine Met.ofW (cc := cz_M_tick) (maxL := 4) (ret := (some .int)) (by decide) rfl ?_
  intro p e s m args below meth c s₁ B hml hv
  obtain ⟨rfl, hsz, hP, hK, hD0, hN⟩ := hv
  have hx := B.exec
  have hb := B.bytes
  have hr := B.returns
  have hts := atoms_spec (ws := wz_M_tick) B.pre
  have hz : ∀ w ∈ zw_T, w.before ([.ref h0, .long p1] : List Value).toArray s = true := fun w h => hts w (List.mem_cons_of_mem _ h)
  have hown : s.vm.findClass RzM = some m.cls := findClass_of_methodNamed B.named
  have hlocks := B.notSynchronized
  have hok0 := hok
  subst hsz
  have hD := hD0.self (sz := s.heap.size)
  generalize hAe : va_A (zm_W ci cj cz h0 a M) s.heap.size = A at hD ⊢
  have hA : ∀ q : Nat, s.heap.size ≤ q → A q := fun q h => by rw [← hAe]; exact Or.inr h
  have hS : va_S A s.heap s.heap [] := va_S.rf
  have hl := lv_entry ([.ref h0, .long p1]) (n := 4) (Nat.le_of_ble_eq_true rfl)
  rw [lg_entry_eq]
  generalize (lg_sl ([.ref h0, .long p1]) ++ List.replicate (4 - (lg_sl ([.ref h0, .long p1])).length) Slot.unset).toArray = ls at hl ⊢
  have hl : lv_has ls 4 [(0, .ref h0), (1, .long p1)] := hl
  refine lv_aload_n hx hb dz_M_tick_0 rfl (lv_at hl 0 rfl) ?_
  refine lv_lload_n hx hb dz_M_tick_1 rfl (lv_at hl 1 rfl) ?_
  refine vp_callSi (va_Run.run (va_runV (As := [.long p1]) (rest := []) ⟨hx, hb, hml, hown, hz⟩ (ct_M_isNoTime l dC dI ci cj cz h0 a M hok p1) (cwV 1 hz (zw_gV zi_300 zi_301 zi_27 zi_35 zi_302) rfl rfl rfl (by decide +kernel) ⟨Nat.le_of_ble_eq_true rfl, Nat.le_of_ble_eq_true rfl⟩) (zw_preRV zw_ns_ok hP hK hN (ci := 3) rfl (k := 0) rfl) rfl rfl hl.1 rfl (lv_room (Nat.le_of_ble_eq_true rfl)) dz_M_tick_2 ⟨Nat.le_of_ble_eq_true rfl, Nat.le_of_ble_eq_true rfl⟩)) (fun r_1 hr_1 => ?_)
  have hr_1 : r_1 = zm_isNo M p1 := hr_1
  subst hr_1
  refine lv_if_eq (tgt := 11) hx hb dz_M_tick_5 (by decide) (fun c_2 => ?_) (fun c_2 => ?_)
  · refine lv_aload_n hx hb dz_M_tick_11 rfl (lv_at hl 0 rfl) ?_
    refine lv_lload_n hx hb dz_M_tick_12 rfl (lv_at hl 1 rfl) ?_
    have hFc := zw_free hS hA hD
    refine va_callv (va_runV (As := [.long p1]) (rest := []) ⟨hx, hb, hml, hown, hz⟩ (ct_M_pass l dC dI ci cj cz h0 a M hok s.heap.size p1) (cwV 1 hz (zw_gV zi_303 zi_304 zi_28 zi_35 zi_305) rfl rfl rfl (by decide +kernel) ⟨Nat.le_of_ble_eq_true rfl, Nat.le_of_ble_eq_true rfl⟩) (zw_preUV zw_ns_ok hP hD hK hN (ci := 3) rfl (k := 0) rfl) rfl rfl hl.1 rfl (lv_room (Nat.le_of_ble_eq_true rfl)) dz_M_tick_13 ⟨Nat.le_of_ble_eq_true rfl, Nat.le_of_ble_eq_true rfl⟩) hS (fun q _ h => hFc q h) hFc (fun u_3 t_3 H locs ht hvm hw hB hz1 hk1 hS => ?_)
    obtain ⟨hP, hD⟩ := hB
    rw [ht] at hP
    have hD := hD.weaken (fun _ q _ h => hFc q.1 h)
    obtain ⟨S_4, eS_4⟩ : ∃ z, z = (zm_pass M p1) := ⟨_, rfl⟩
    rw [← eS_4] at hP hD
    have hok : zm_ok S_4 := by rw [eS_4]; exact zm_ok_pass hok
    refine lv_aload_n hx hb dz_M_tick_16 rfl (lv_at hl 0 rfl) ?_
    refine va_get (D := (dC, dI)) (ci := 3) (v := .int (zm_A S_4)) (C := RzM) (T := TzM) (N := 18) hx hb hz inzM hown hK hP 0 rfl rfl 11 (by decide) (hz _ zi_247) (fun _ h9 => h9) rfl dz_M_tick_17 ?_
    refine lv_istore_n (lv' := [(3, .int (zm_A S_4)), (0, .ref h0), (1, .long p1)]) hx hb dz_M_tick_20 rfl hl (by decide) rfl (fun ls hl => ?_)
    refine lv_aload_n hx hb dz_M_tick_21 rfl (lv_at hl 1 rfl) ?_
    refine lv_iconst (v := 0) hx hb dz_M_tick_22 (by decide) ?_
    refine va_put (D := (dC, dI)) (ci := 3) (v := .int 0) (ty := .int) (C := RzM) (T := TzM) (N := 18) hx hb hz inzM tyzM tyzM_ok nmzM hown hK hP hD hS 0 rfl rfl 11 (by decide) (hz _ zi_247) (fun _ h9 => h9) rfl (by decide +kernel) rfl rfl (Nat.le_of_ble_eq_true rfl) dz_M_tick_23 (fun H locs hP hD hS => ?_)
    obtain ⟨S_5, eS_5⟩ : ∃ z, z = zm_sA S_4 0 := ⟨_, rfl⟩
    have hP : va_P (dC, dI) vwCl (zm_W ci cj cz h0 a S_5) H := by rw [eS_5]; exact hP
    have hD : va_D A (zm_W ci cj cz h0 a S_5) := by rw [eS_5]; exact hD
    have hok : zm_ok S_5 := by rw [eS_5]; exact hok
    refine lv_iload_n hx hb dz_M_tick_26 rfl (lv_at hl 0 rfl) ?_
    have hE_6 : zm_tick M p1 = (zm_A S_4, S_5) := by subst eS_4 eS_5; simp only [zm_tick, if_pos c_2]
    exact W.iret (v := zm_A S_4) hx hb hr (fun t ht hW => ⟨⟨_, (), rfl, by show zm_A S_4 = (zm_tick M p1).1; rw [hE_6], by show va_P (dC, dI) vwCl (zm_W ci cj cz h0 a ((zm_tick M p1).2)) t.heap; rw [ht, hE_6]; exact hP, by show va_D A (zm_W ci cj cz h0 a ((zm_tick M p1).2)); rw [hE_6]; exact hD⟩, hS.F ht⟩) hS.2.2 dz_M_tick_27
  · refine lv_bipush (v := -12) hx hb dz_M_tick_8 (by decide) ?_
    have hE_7 : zm_tick M p1 = ((-12), M) := by simp only [zm_tick, if_neg c_2]
    exact W.iret (v := (-12)) hx hb hr (fun t ht hW => ⟨⟨_, (), rfl, by show (-12) = (zm_tick M p1).1; rw [hE_7], by show va_P (dC, dI) vwCl (zm_W ci cj cz h0 a ((zm_tick M p1).2)) t.heap; rw [ht, hE_7]; exact hP, by show va_D A (zm_W ci cj cz h0 a ((zm_tick M p1).2)); rw [hE_7]; exact hD⟩, hS.F ht⟩) hS.2.2 dz_M_tick_10
set_option maxHeartbeats 4000000 in
set_option maxRecDepth 100000 in
theorem ct_M_take (l : Launch) (dC : Nat → ClassId) (dI : Nat → Nat → Nat) (ci cj cz : ClassId) (h0 : Nat) (a : zm_Ad) (M : zm_S) (hok : zm_ok M) (sz : Nat) (p1 : Int32) (p2 : Int32) : Met l yz_M_take wz_M_take (zw_room 2 0 0) (zw_U zw_ns (dC, dI) vwCl (zm_tys ci cj cz) [.ref h0, .int p1, .int p2] (zm_W ci cj cz h0 a M) sz) (va_Qi (fun (r : Int32) (_ : Unit) => r = (zm_take M p1 p2).1) (fun (_ : Unit) (t : State) => va_P (dC, dI) vwCl (zm_W ci cj cz h0 a ((zm_take M p1 p2).2)) t.heap ∧ va_D (va_A (zm_W ci cj cz h0 a M) sz) (zm_W ci cj cz h0 a ((zm_take M p1 p2).2))) (va_A (zm_W ci cj cz h0 a M) sz)) 0 0 (va_A (zm_W ci cj cz h0 a M) sz) := by
  refine Met.ofW (cc := cz_M_take) (maxL := 3) (ret := (some .int)) (by decide) rfl ?_
  intro p e s m args below meth c s₁ B hml hv
  obtain ⟨rfl, hsz, hP, hK, hD0, hN⟩ := hv
  have hx := B.exec
  have hb := B.bytes
  have hr := B.returns
  have hts := atoms_spec (ws := wz_M_take) B.pre
  have hz : ∀ w ∈ zw_T, w.before ([.ref h0, .int p1, .int p2] : List Value).toArray s = true := fun w h => hts w (List.mem_cons_of_mem _ h)
  have hown : s.vm.findClass RzM = some m.cls := findClass_of_methodNamed B.named
  have hlocks := B.notSynchronized
  have hok0 := hok
  subst hsz
  have hD := hD0.self (sz := s.heap.size)
  generalize hAe : va_A (zm_W ci cj cz h0 a M) s.heap.size = A at hD ⊢
  have hA : ∀ q : Nat, s.heap.size ≤ q → A q := fun q h => by rw [← hAe]; exact Or.inr h
  have hS : va_S A s.heap s.heap [] := va_S.rf
  have hl := lv_entry ([.ref h0, .int p1, .int p2]) (n := 3) (Nat.le_of_ble_eq_true rfl)
  rw [lg_entry_eq]
  generalize (lg_sl ([.ref h0, .int p1, .int p2]) ++ List.replicate (3 - (lg_sl ([.ref h0, .int p1, .int p2])).length) Slot.unset).toArray = ls at hl ⊢
  have hl : lv_has ls 3 [(0, .ref h0), (1, .int p1), (2, .int p2)] := hl
  refine lv_aload_n hx hb dz_M_take_0 rfl (lv_at hl 0 rfl) ?_
  refine lv_iload_n hx hb dz_M_take_1 rfl (lv_at hl 1 rfl) ?_
  refine vp_callSi (va_Run.run (va_runV (As := [.int p1]) (rest := []) ⟨hx, hb, hml, hown, hz⟩ (ct_M_isBox l dC dI ci cj cz h0 a M hok p1) (cwV 1 hz (zw_gV zi_296 zi_297 zi_26 zi_35 zi_298) rfl rfl rfl (by decide +kernel) ⟨Nat.le_of_ble_eq_true rfl, Nat.le_of_ble_eq_true rfl⟩) (zw_preRV zw_ns_ok hP hK hN (ci := 3) rfl (k := 0) rfl) rfl rfl hl.1 rfl (lv_room (Nat.le_of_ble_eq_true rfl)) dz_M_take_2 ⟨Nat.le_of_ble_eq_true rfl, Nat.le_of_ble_eq_true rfl⟩)) (fun r_1 hr_1 => ?_)
  have hr_1 : r_1 = zm_isBox M p1 := hr_1
  subst hr_1
  refine lv_if_ne (tgt := 11) hx hb dz_M_take_5 (by decide) (fun c_2 => ?_) (fun c_2 => ?_)
  · refine lv_iload_n hx hb dz_M_take_11 rfl (lv_at hl 2 rfl) ?_
    refine lv_i2l (v := p2.toInt64) hx hb dz_M_take_12 rfl ?_
    refine lv_lconst (v := 0) hx hb dz_M_take_13 (by decide) ?_
    refine lv_ldc2 (v := 9) hx hb hown (hz _ zi_343) dz_M_take_14 ?_
    refine vp_callSi (va_Run.run (va_runS (As := [.long p2.toInt64, .long 0, .long 9]) (rest := []) ⟨hx, hb, hml, hown, hz⟩ (ct_M_within l dC dI ci cj cz p2.toInt64 0 9) (cwS 3 hz (zw_gS zi_279 zi_280 zi_35 zi_281) rfl rfl rfl (by decide +kernel) ⟨Nat.le_of_ble_eq_true rfl, Nat.le_of_ble_eq_true rfl⟩) (zw_preR zw_ns_ok (ws := []) (fun k q h => by simp at h) hK hN) rfl rfl hl.1 rfl (lv_room (Nat.le_of_ble_eq_true rfl)) dz_M_take_17 ⟨Nat.le_of_ble_eq_true rfl, Nat.le_of_ble_eq_true rfl⟩)) (fun r_3 hr_3 => ?_)
    have hr_3 : r_3 = zm_within p2.toInt64 0 9 := hr_3
    subst hr_3
    refine lv_if_ne (tgt := 26) hx hb dz_M_take_20 (by decide) (fun c_4 => ?_) (fun c_4 => ?_)
    · refine lv_aload_n hx hb dz_M_take_26 rfl (lv_at hl 0 rfl) ?_
      refine va_get (D := (dC, dI)) (ci := 3) (v := .ref a.2.1) (C := RzM) (T := TzM) (N := 18) hx hb hz inzM hown hK hP 0 rfl rfl 2 (by decide) (hz _ zi_238) (fun _ h9 => h9) rfl dz_M_take_27 ?_
      refine lv_iload_n hx hb dz_M_take_30 rfl (lv_at hl 1 rfl) ?_
      have hin_5 : vp_in p1 61 := zm_isBox_in hok0 c_2
      refine va_iald hx hb hK hP 2 0 rfl rfl hin_5 dz_M_take_31 ?_
      refine lv_iconst (v := 1) hx hb dz_M_take_32 (by decide) ?_
      refine lv_icmp_eq (tgt := 46) hx hb dz_M_take_33 (by decide) (fun c_6 => ?_) (fun c_6 => ?_)
      · refine lv_aload_n hx hb dz_M_take_46 rfl (lv_at hl 0 rfl) ?_
        refine lv_iload_n hx hb dz_M_take_47 rfl (lv_at hl 1 rfl) ?_
        have hFc := zw_free hS hA hD
        refine va_calli (va_runV (As := [.int p1]) (rest := []) ⟨hx, hb, hml, hown, hz⟩ (ct_M_out l dC dI ci cj cz h0 a M hok s.heap.size p1 (zm_isBox_in hok0 c_2)) (cwV 1 hz (zw_gV zi_319 zi_320 zi_30 zi_35 zi_321) rfl rfl rfl (by decide +kernel) ⟨Nat.le_of_ble_eq_true rfl, Nat.le_of_ble_eq_true rfl⟩) (zw_preUV zw_ns_ok hP hD hK hN (ci := 3) rfl (k := 0) rfl) rfl rfl hl.1 rfl (lv_room (Nat.le_of_ble_eq_true rfl)) dz_M_take_48 ⟨Nat.le_of_ble_eq_true rfl, Nat.le_of_ble_eq_true rfl⟩) hS (fun q _ h => hFc q h) hFc (fun r_7 u_7 t_7 H locs ht hvm hw hB hz1 hk1 hS => ?_)
        have hw : r_7 = (zm_out M p1).1 := hw
        subst hw
        obtain ⟨hP, hD⟩ := hB
        rw [ht] at hP
        have hD := hD.weaken (fun _ q _ h => hFc q.1 h)
        obtain ⟨S_8, eS_8⟩ : ∃ z, z = (zm_out M p1).2 := ⟨_, rfl⟩
        rw [← eS_8] at hP hD
        have hok : zm_ok S_8 := by rw [eS_8]; exact zm_ok_out hok
        refine lv_goto (tgt := 55) hx hb dz_M_take_51 (by decide) ?_
        have hE_9 : zm_take M p1 p2 = ((zm_out M p1).1, S_8) := by subst eS_8; simp only [zm_take, if_neg c_2, if_neg c_4, if_pos c_6]
        exact W.iret (v := (zm_out M p1).1) hx hb hr (fun t ht hW => ⟨⟨_, (), rfl, by show (zm_out M p1).1 = (zm_take M p1 p2).1; rw [hE_9], by show va_P (dC, dI) vwCl (zm_W ci cj cz h0 a ((zm_take M p1 p2).2)) t.heap; rw [ht, hE_9]; exact hP, by show va_D A (zm_W ci cj cz h0 a ((zm_take M p1 p2).2)); rw [hE_9]; exact hD⟩, hS.F ht⟩) hS.2.2 dz_M_take_55
      · refine lv_aload_n hx hb dz_M_take_36 rfl (lv_at hl 0 rfl) ?_
        refine va_get (D := (dC, dI)) (ci := 3) (v := .ref a.2.1) (C := RzM) (T := TzM) (N := 18) hx hb hz inzM hown hK hP 0 rfl rfl 2 (by decide) (hz _ zi_238) (fun _ h9 => h9) rfl dz_M_take_37 ?_
        refine lv_iload_n hx hb dz_M_take_40 rfl (lv_at hl 1 rfl) ?_
        have hin_10 : vp_in p1 61 := zm_isBox_in hok0 c_2
        refine va_iald hx hb hK hP 2 0 rfl rfl hin_10 dz_M_take_41 ?_
        refine lv_iconst (v := 2) hx hb dz_M_take_42 (by decide) ?_
        refine lv_icmp_ne (tgt := 54) hx hb dz_M_take_43 (by decide) (fun c_11 => ?_) (fun c_11 => ?_)
        · refine lv_iconst (v := 0) hx hb dz_M_take_54 (by decide) ?_
          have hE_12 : zm_take M p1 p2 = (0, M) := by simp only [zm_take, if_neg c_2, if_neg c_4, if_neg c_6, if_neg c_11]
          exact W.iret (v := 0) hx hb hr (fun t ht hW => ⟨⟨_, (), rfl, by show 0 = (zm_take M p1 p2).1; rw [hE_12], by show va_P (dC, dI) vwCl (zm_W ci cj cz h0 a ((zm_take M p1 p2).2)) t.heap; rw [ht, hE_12]; exact hP, by show va_D A (zm_W ci cj cz h0 a ((zm_take M p1 p2).2)); rw [hE_12]; exact hD⟩, hS.F ht⟩) hS.2.2 dz_M_take_55
        · refine lv_aload_n hx hb dz_M_take_46 rfl (lv_at hl 0 rfl) ?_
          refine lv_iload_n hx hb dz_M_take_47 rfl (lv_at hl 1 rfl) ?_
          have hFc := zw_free hS hA hD
          refine va_calli (va_runV (As := [.int p1]) (rest := []) ⟨hx, hb, hml, hown, hz⟩ (ct_M_out l dC dI ci cj cz h0 a M hok s.heap.size p1 (zm_isBox_in hok0 c_2)) (cwV 1 hz (zw_gV zi_319 zi_320 zi_30 zi_35 zi_321) rfl rfl rfl (by decide +kernel) ⟨Nat.le_of_ble_eq_true rfl, Nat.le_of_ble_eq_true rfl⟩) (zw_preUV zw_ns_ok hP hD hK hN (ci := 3) rfl (k := 0) rfl) rfl rfl hl.1 rfl (lv_room (Nat.le_of_ble_eq_true rfl)) dz_M_take_48 ⟨Nat.le_of_ble_eq_true rfl, Nat.le_of_ble_eq_true rfl⟩) hS (fun q _ h => hFc q h) hFc (fun r_13 u_13 t_13 H locs ht hvm hw hB hz1 hk1 hS => ?_)
          have hw : r_13 = (zm_out M p1).1 := hw
          subst hw
          obtain ⟨hP, hD⟩ := hB
          rw [ht] at hP
          have hD := hD.weaken (fun _ q _ h => hFc q.1 h)
          obtain ⟨S_14, eS_14⟩ : ∃ z, z = (zm_out M p1).2 := ⟨_, rfl⟩
          rw [← eS_14] at hP hD
          have hok : zm_ok S_14 := by rw [eS_14]; exact zm_ok_out hok
          refine lv_goto (tgt := 55) hx hb dz_M_take_51 (by decide) ?_
          have hE_15 : zm_take M p1 p2 = ((zm_out M p1).1, S_14) := by subst eS_14; simp only [zm_take, if_neg c_2, if_neg c_4, if_neg c_6, if_pos c_11]
          exact W.iret (v := (zm_out M p1).1) hx hb hr (fun t ht hW => ⟨⟨_, (), rfl, by show (zm_out M p1).1 = (zm_take M p1 p2).1; rw [hE_15], by show va_P (dC, dI) vwCl (zm_W ci cj cz h0 a ((zm_take M p1 p2).2)) t.heap; rw [ht, hE_15]; exact hP, by show va_D A (zm_W ci cj cz h0 a ((zm_take M p1 p2).2)); rw [hE_15]; exact hD⟩, hS.F ht⟩) hS.2.2 dz_M_take_55
    · refine lv_bipush (v := -12) hx hb dz_M_take_23 (by decide) ?_
      have hE_16 : zm_take M p1 p2 = ((-12), M) := by simp only [zm_take, if_neg c_2, if_pos c_4]
      exact W.iret (v := (-12)) hx hb hr (fun t ht hW => ⟨⟨_, (), rfl, by show (-12) = (zm_take M p1 p2).1; rw [hE_16], by show va_P (dC, dI) vwCl (zm_W ci cj cz h0 a ((zm_take M p1 p2).2)) t.heap; rw [ht, hE_16]; exact hP, by show va_D A (zm_W ci cj cz h0 a ((zm_take M p1 p2).2)); rw [hE_16]; exact hD⟩, hS.F ht⟩) hS.2.2 dz_M_take_25
  · refine lv_bipush (v := -11) hx hb dz_M_take_8 (by decide) ?_
    have hE_17 : zm_take M p1 p2 = ((-11), M) := by simp only [zm_take, if_pos c_2]
    exact W.iret (v := (-11)) hx hb hr (fun t ht hW => ⟨⟨_, (), rfl, by show (-11) = (zm_take M p1 p2).1; rw [hE_17], by show va_P (dC, dI) vwCl (zm_W ci cj cz h0 a ((zm_take M p1 p2).2)) t.heap; rw [ht, hE_17]; exact hP, by show va_D A (zm_W ci cj cz h0 a ((zm_take M p1 p2).2)); rw [hE_17]; exact hD⟩, hS.F ht⟩) hS.2.2 dz_M_take_10
set_option maxHeartbeats 4000000 in
set_option maxRecDepth 100000 in
theorem ct_M_item (l : Launch) (dC : Nat → ClassId) (dI : Nat → Nat → Nat) (ci cj cz : ClassId) (h0 : Nat) (a : zm_Ad) (M : zm_S) (hok : zm_ok M) (p1 : Int32) : Met l yz_M_item wz_M_item (zw_room 2 0 0) (zw_R zw_ns (dC, dI) vwCl (zm_tys ci cj cz) [.ref h0, .int p1] (zm_W ci cj cz h0 a M)) (vp_Si (fun r => r = zm_item M p1)) 0 0 (fun _ => False) := by
  refine Met.ofW (cc := cz_M_item) (maxL := 2) (ret := (some .int)) (by decide) rfl ?_
  intro p e s m args below meth c s₁ B hml hv
  obtain ⟨rfl, hP, hK, hN⟩ := hv
  have hx := B.exec
  have hb := B.bytes
  have hr := B.returns
  have hts := atoms_spec (ws := wz_M_item) B.pre
  have hz : ∀ w ∈ zw_T, w.before ([.ref h0, .int p1] : List Value).toArray s = true := fun w h => hts w (List.mem_cons_of_mem _ h)
  have hown : s.vm.findClass RzM = some m.cls := findClass_of_methodNamed B.named
  have hlocks := B.notSynchronized
  have hok0 := hok
  have hl := lv_entry ([.ref h0, .int p1]) (n := 2) (Nat.le_of_ble_eq_true rfl)
  rw [lg_entry_eq]
  generalize (lg_sl ([.ref h0, .int p1]) ++ List.replicate (2 - (lg_sl ([.ref h0, .int p1])).length) Slot.unset).toArray = ls at hl ⊢
  have hl : lv_has ls 2 [(0, .ref h0), (1, .int p1)] := hl
  refine lv_aload_n hx hb dz_M_item_0 rfl (lv_at hl 0 rfl) ?_
  refine lv_iload_n hx hb dz_M_item_1 rfl (lv_at hl 1 rfl) ?_
  refine vp_callSi (va_Run.run (va_runV (As := [.int p1]) (rest := []) ⟨hx, hb, hml, hown, hz⟩ (ct_M_isBox l dC dI ci cj cz h0 a M hok p1) (cwV 1 hz (zw_gV zi_296 zi_297 zi_26 zi_35 zi_298) rfl rfl rfl (by decide +kernel) ⟨Nat.le_of_ble_eq_true rfl, Nat.le_of_ble_eq_true rfl⟩) (zw_preRV zw_ns_ok hP hK hN (ci := 3) rfl (k := 0) rfl) rfl rfl hl.1 rfl (lv_room (Nat.le_of_ble_eq_true rfl)) dz_M_item_2 ⟨Nat.le_of_ble_eq_true rfl, Nat.le_of_ble_eq_true rfl⟩)) (fun r_1 hr_1 => ?_)
  have hr_1 : r_1 = zm_isBox M p1 := hr_1
  subst hr_1
  refine lv_if_ne (tgt := 13) hx hb dz_M_item_5 (by decide) (fun c_2 => ?_) (fun c_2 => ?_)
  · refine lv_aload_n hx hb dz_M_item_13 rfl (lv_at hl 0 rfl) ?_
    refine va_get (D := (dC, dI)) (ci := 3) (v := .ref a.2.2.2.2.2.2.2.1) (C := RzM) (T := TzM) (N := 18) hx hb hz inzM hown hK hP 0 rfl rfl 8 (by decide) (hz _ zi_244) (fun _ h9 => h9) rfl dz_M_item_14 ?_
    refine lv_iload_n hx hb dz_M_item_17 rfl (lv_at hl 1 rfl) ?_
    have hin_3 : vp_in p1 61 := zm_isBox_in hok0 c_2
    refine va_zald hx hb hK hP 8 2 rfl rfl hin_3 dz_M_item_18 ?_
    refine lv_if_eq (tgt := 32) hx hb dz_M_item_19 (by decide) (fun c_4 => ?_) (fun c_4 => ?_)
    · refine lv_aload_n hx hb dz_M_item_32 rfl (lv_at hl 0 rfl) ?_
      refine va_get (D := (dC, dI)) (ci := 3) (v := .ref a.2.2.2.2.1) (C := RzM) (T := TzM) (N := 18) hx hb hz inzM hown hK hP 0 rfl rfl 5 (by decide) (hz _ zi_241) (fun _ h9 => h9) rfl dz_M_item_33 ?_
      refine lv_iload_n hx hb dz_M_item_36 rfl (lv_at hl 1 rfl) ?_
      have hin_5 : vp_in p1 61 := zm_isBox_in hok0 c_2
      refine va_iald hx hb hK hP 5 0 rfl rfl hin_5 dz_M_item_37 ?_
      exact W.iret (v := zm_it M p1.toNatClampNeg) hx hb hr (fun t ht hW => ⟨_, rfl, by simp only [zm_item, if_neg c_2, if_pos c_4], ht⟩) (fun _ h => by cases h) dz_M_item_38
    · refine lv_aload_n hx hb dz_M_item_22 rfl (lv_at hl 0 rfl) ?_
      refine va_get (D := (dC, dI)) (ci := 3) (v := .ref a.2.2.2.2.1) (C := RzM) (T := TzM) (N := 18) hx hb hz inzM hown hK hP 0 rfl rfl 5 (by decide) (hz _ zi_241) (fun _ h9 => h9) rfl dz_M_item_23 ?_
      refine lv_iload_n hx hb dz_M_item_26 rfl (lv_at hl 1 rfl) ?_
      have hin_6 : vp_in p1 61 := zm_isBox_in hok0 c_2
      refine va_iald hx hb hK hP 5 0 rfl rfl hin_6 dz_M_item_27 ?_
      refine lv_ineg hx hb dz_M_item_28 ?_
      refine lv_goto (tgt := 38) hx hb dz_M_item_29 (by decide) ?_
      exact W.iret (v := -(zm_it M p1.toNatClampNeg)) hx hb hr (fun t ht hW => ⟨_, rfl, by simp only [zm_item, if_neg c_2, if_neg c_4], ht⟩) (fun _ h => by cases h) dz_M_item_38
  · refine lv_bipush (v := -11) hx hb dz_M_item_8 (by decide) ?_
    refine lv_goto (tgt := 38) hx hb dz_M_item_10 (by decide) ?_
    exact W.iret (v := (-11)) hx hb hr (fun t ht hW => ⟨_, rfl, by simp only [zm_item, if_pos c_2], ht⟩) (fun _ h => by cases h) dz_M_item_38
set_option maxHeartbeats 4000000 in
set_option maxRecDepth 100000 in
theorem ct_M_freed (l : Launch) (dC : Nat → ClassId) (dI : Nat → Nat → Nat) (ci cj cz : ClassId) (h0 : Nat) (a : zm_Ad) (M : zm_S) (hok : zm_ok M) (p1 : Int32) : Met l yz_M_freed wz_M_freed (zw_room 1 0 0) (zw_R zw_ns (dC, dI) vwCl (zm_tys ci cj cz) [.ref h0, .int p1] (zm_W ci cj cz h0 a M)) (vp_Si (fun r => r = zm_freed M p1)) 0 0 (fun _ => False) := by
  refine Met.ofW (cc := cz_M_freed) (maxL := 2) (ret := (some .int)) (by decide) rfl ?_
  intro p e s m args below meth c s₁ B hml hv
  obtain ⟨rfl, hP, hK, hN⟩ := hv
  have hx := B.exec
  have hb := B.bytes
  have hr := B.returns
  have hts := atoms_spec (ws := wz_M_freed) B.pre
  have hz : ∀ w ∈ zw_T, w.before ([.ref h0, .int p1] : List Value).toArray s = true := fun w h => hts w (List.mem_cons_of_mem _ h)
  have hown : s.vm.findClass RzM = some m.cls := findClass_of_methodNamed B.named
  have hlocks := B.notSynchronized
  have hok0 := hok
  have hl := lv_entry ([.ref h0, .int p1]) (n := 2) (Nat.le_of_ble_eq_true rfl)
  rw [lg_entry_eq]
  generalize (lg_sl ([.ref h0, .int p1]) ++ List.replicate (2 - (lg_sl ([.ref h0, .int p1])).length) Slot.unset).toArray = ls at hl ⊢
  have hl : lv_has ls 2 [(0, .ref h0), (1, .int p1)] := hl
  refine lv_iload_n hx hb dz_M_freed_0 rfl (lv_at hl 1 rfl) ?_
  refine lv_i2l (v := p1.toInt64) hx hb dz_M_freed_1 rfl ?_
  refine lv_lconst (v := 0) hx hb dz_M_freed_2 (by decide) ?_
  refine lv_aload_n hx hb dz_M_freed_3 rfl (lv_at hl 0 rfl) ?_
  refine va_get (D := (dC, dI)) (ci := 3) (v := .int (nI (zm_fn M))) (C := RzM) (T := TzM) (N := 18) hx hb hz inzM hown hK hP 0 rfl rfl 16 (by decide) (hz _ zi_252) (fun _ h9 => h9) rfl dz_M_freed_4 ?_
  refine lv_iconst (v := 1) hx hb dz_M_freed_7 (by decide) ?_
  refine lv_isub hx hb dz_M_freed_8 ?_
  refine lv_i2l (v := ((nI (zm_fn M)) - 1).toInt64) hx hb dz_M_freed_9 rfl ?_
  refine vp_callSi (va_Run.run (va_runS (As := [.long p1.toInt64, .long 0, .long (((nI (zm_fn M)) - 1).toInt64)]) (rest := []) ⟨hx, hb, hml, hown, hz⟩ (ct_M_within l dC dI ci cj cz p1.toInt64 0 (((nI (zm_fn M)) - 1).toInt64)) (cwS 3 hz (zw_gS zi_279 zi_280 zi_35 zi_281) rfl rfl rfl (by decide +kernel) ⟨Nat.le_of_ble_eq_true rfl, Nat.le_of_ble_eq_true rfl⟩) (zw_preR zw_ns_ok (ws := []) (fun k q h => by simp at h) hK hN) rfl rfl hl.1 rfl (lv_room (Nat.le_of_ble_eq_true rfl)) dz_M_freed_10 ⟨Nat.le_of_ble_eq_true rfl, Nat.le_of_ble_eq_true rfl⟩)) (fun r_1 hr_1 => ?_)
  have hr_1 : r_1 = zm_within p1.toInt64 0 (((nI (zm_fn M)) - 1).toInt64) := hr_1
  subst hr_1
  refine lv_if_eq (tgt := 25) hx hb dz_M_freed_13 (by decide) (fun c_2 => ?_) (fun c_2 => ?_)
  · refine lv_iconst (v := 0) hx hb dz_M_freed_25 (by decide) ?_
    exact W.iret (v := 0) hx hb hr (fun t ht hW => ⟨_, rfl, by simp only [zm_freed, if_pos c_2], ht⟩) (fun _ h => by cases h) dz_M_freed_26
  · refine lv_aload_n hx hb dz_M_freed_16 rfl (lv_at hl 0 rfl) ?_
    refine va_get (D := (dC, dI)) (ci := 3) (v := .ref a.2.2.2.2.2.2.2.2.2.2) (C := RzM) (T := TzM) (N := 18) hx hb hz inzM hown hK hP 0 rfl rfl 17 (by decide) (hz _ zi_253) (fun _ h9 => h9) rfl dz_M_freed_17 ?_
    refine lv_iload_n hx hb dz_M_freed_20 rfl (lv_at hl 1 rfl) ?_
    have hin_3 : vp_in p1 100 := zm_free_in hok0 c_2
    refine va_iald hx hb hK hP 11 0 rfl rfl hin_3 dz_M_freed_21 ?_
    refine lv_goto (tgt := 26) hx hb dz_M_freed_22 (by decide) ?_
    exact W.iret (v := zm_fr M p1.toNatClampNeg) hx hb hr (fun t ht hW => ⟨_, rfl, by simp only [zm_freed, if_neg c_2], ht⟩) (fun _ h => by cases h) dz_M_freed_26
end
section
set_option maxHeartbeats 4000000 in
set_option maxRecDepth 100000 in
theorem ct_M_close (l : Launch) (dC : Nat → ClassId) (dI : Nat → Nat → Nat) (ci cj cz : ClassId) (h0 : Nat) (a : zm_Ad) (M : zm_S) (hok : zm_ok M) (sz : Nat) (p1 : Int32) (p2 : Int64) : Met l yz_M_close wz_M_close (zw_room 2 0 0) (zw_U zw_ns (dC, dI) vwCl (zm_tys ci cj cz) [.ref h0, .int p1, .long p2] (zm_W ci cj cz h0 a M) sz) (va_Qi (fun (r : Int32) (_ : Unit) => r = (zm_close M p1 p2).1) (fun (_ : Unit) (t : State) => va_P (dC, dI) vwCl (zm_W ci cj cz h0 a ((zm_close M p1 p2).2)) t.heap ∧ va_D (va_A (zm_W ci cj cz h0 a M) sz) (zm_W ci cj cz h0 a ((zm_close M p1 p2).2))) (va_A (zm_W ci cj cz h0 a M) sz)) 0 0 (va_A (zm_W ci cj cz h0 a M) sz) := by
  refine Met.ofW (cc := cz_M_close) (maxL := 7) (ret := (some .int)) (by decide) rfl ?_
  intro p e s m args below meth c s₁ B hml hv
  obtain ⟨rfl, hsz, hP, hK, hD0, hN⟩ := hv
  have hx := B.exec
  have hb := B.bytes
  have hr := B.returns
  have hts := atoms_spec (ws := wz_M_close) B.pre
  have hz : ∀ w ∈ zw_T, w.before ([.ref h0, .int p1, .long p2] : List Value).toArray s = true := fun w h => hts w (List.mem_cons_of_mem _ h)
  have hown : s.vm.findClass RzM = some m.cls := findClass_of_methodNamed B.named
  have hlocks := B.notSynchronized
  have hok0 := hok
  subst hsz
  have hD := hD0.self (sz := s.heap.size)
  generalize hAe : va_A (zm_W ci cj cz h0 a M) s.heap.size = A at hD ⊢
  have hA : ∀ q : Nat, s.heap.size ≤ q → A q := fun q h => by rw [← hAe]; exact Or.inr h
  have hS : va_S A s.heap s.heap [] := va_S.rf
  have hl := lv_entry ([.ref h0, .int p1, .long p2]) (n := 7) (Nat.le_of_ble_eq_true rfl)
  rw [lg_entry_eq]
  generalize (lg_sl ([.ref h0, .int p1, .long p2]) ++ List.replicate (7 - (lg_sl ([.ref h0, .int p1, .long p2])).length) Slot.unset).toArray = ls at hl ⊢
  have hl : lv_has ls 7 [(0, .ref h0), (1, .int p1), (2, .long p2)] := hl
  refine lv_aload_n hx hb dz_M_close_0 rfl (lv_at hl 0 rfl) ?_
  refine lv_iload_n hx hb dz_M_close_1 rfl (lv_at hl 1 rfl) ?_
  refine vp_callSi (va_Run.run (va_runV (As := [.int p1]) (rest := []) ⟨hx, hb, hml, hown, hz⟩ (ct_M_isBox l dC dI ci cj cz h0 a M hok p1) (cwV 1 hz (zw_gV zi_296 zi_297 zi_26 zi_35 zi_298) rfl rfl rfl (by decide +kernel) ⟨Nat.le_of_ble_eq_true rfl, Nat.le_of_ble_eq_true rfl⟩) (zw_preRV zw_ns_ok hP hK hN (ci := 3) rfl (k := 0) rfl) rfl rfl hl.1 rfl (lv_room (Nat.le_of_ble_eq_true rfl)) dz_M_close_2 ⟨Nat.le_of_ble_eq_true rfl, Nat.le_of_ble_eq_true rfl⟩)) (fun r_1 hr_1 => ?_)
  have hr_1 : r_1 = zm_isBox M p1 := hr_1
  subst hr_1
  refine lv_if_ne (tgt := 11) hx hb dz_M_close_5 (by decide) (fun c_2 => ?_) (fun c_2 => ?_)
  · refine lv_aload_n hx hb dz_M_close_11 rfl (lv_at hl 0 rfl) ?_
    refine lv_lload_n hx hb dz_M_close_12 rfl (lv_at hl 2 rfl) ?_
    refine vp_callSi (va_Run.run (va_runV (As := [.long p2]) (rest := []) ⟨hx, hb, hml, hown, hz⟩ (ct_M_isNoTime l dC dI ci cj cz h0 a M hok p2) (cwV 1 hz (zw_gV zi_300 zi_301 zi_27 zi_35 zi_302) rfl rfl rfl (by decide +kernel) ⟨Nat.le_of_ble_eq_true rfl, Nat.le_of_ble_eq_true rfl⟩) (zw_preRV zw_ns_ok hP hK hN (ci := 3) rfl (k := 0) rfl) rfl rfl hl.1 rfl (lv_room (Nat.le_of_ble_eq_true rfl)) dz_M_close_13 ⟨Nat.le_of_ble_eq_true rfl, Nat.le_of_ble_eq_true rfl⟩)) (fun r_3 hr_3 => ?_)
    have hr_3 : r_3 = zm_isNo M p2 := hr_3
    subst hr_3
    refine lv_if_eq (tgt := 22) hx hb dz_M_close_16 (by decide) (fun c_4 => ?_) (fun c_4 => ?_)
    · refine lv_aload_n hx hb dz_M_close_22 rfl (lv_at hl 0 rfl) ?_
      refine lv_lload_n hx hb dz_M_close_23 rfl (lv_at hl 2 rfl) ?_
      have hFc := zw_free hS hA hD
      refine va_callv (va_runV (As := [.long p2]) (rest := []) ⟨hx, hb, hml, hown, hz⟩ (ct_M_pass l dC dI ci cj cz h0 a M hok s.heap.size p2) (cwV 1 hz (zw_gV zi_303 zi_304 zi_28 zi_35 zi_305) rfl rfl rfl (by decide +kernel) ⟨Nat.le_of_ble_eq_true rfl, Nat.le_of_ble_eq_true rfl⟩) (zw_preUV zw_ns_ok hP hD hK hN (ci := 3) rfl (k := 0) rfl) rfl rfl hl.1 rfl (lv_room (Nat.le_of_ble_eq_true rfl)) dz_M_close_24 ⟨Nat.le_of_ble_eq_true rfl, Nat.le_of_ble_eq_true rfl⟩) hS (fun q _ h => hFc q h) hFc (fun u_5 t_5 H locs ht hvm hw hB hz1 hk1 hS => ?_)
      obtain ⟨hP, hD⟩ := hB
      rw [ht] at hP
      have hD := hD.weaken (fun _ q _ h => hFc q.1 h)
      obtain ⟨S_6, eS_6⟩ : ∃ z, z = (zm_pass M p2) := ⟨_, rfl⟩
      rw [← eS_6] at hP hD
      have hok : zm_ok S_6 := by rw [eS_6]; exact zm_ok_pass hok
      refine lv_aload_n hx hb dz_M_close_27 rfl (lv_at hl 0 rfl) ?_
      refine va_get (D := (dC, dI)) (ci := 3) (v := .ref a.2.1) (C := RzM) (T := TzM) (N := 18) hx hb hz inzM hown hK hP 0 rfl rfl 2 (by decide) (hz _ zi_238) (fun _ h9 => h9) rfl dz_M_close_28 ?_
      refine lv_iload_n hx hb dz_M_close_31 rfl (lv_at hl 1 rfl) ?_
      have hin_7 : vp_in p1 61 := zm_isBox_in hok0 c_2
      refine va_iald hx hb hK hP 2 0 rfl rfl hin_7 dz_M_close_32 ?_
      refine lv_iconst (v := 1) hx hb dz_M_close_33 (by decide) ?_
      refine lv_icmp_eq (tgt := 40) hx hb dz_M_close_34 (by decide) (fun c_8 => ?_) (fun c_8 => ?_)
      · refine lv_aload_n hx hb dz_M_close_40 rfl (lv_at hl 0 rfl) ?_
        refine va_get (D := (dC, dI)) (ci := 3) (v := .ref a.2.2.2.2.1) (C := RzM) (T := TzM) (N := 18) hx hb hz inzM hown hK hP 0 rfl rfl 5 (by decide) (hz _ zi_241) (fun _ h9 => h9) rfl dz_M_close_41 ?_
        refine lv_iload_n hx hb dz_M_close_44 rfl (lv_at hl 1 rfl) ?_
        have hin_9 : vp_in p1 61 := zm_isBox_in hok0 c_2
        refine va_iald hx hb hK hP 5 0 rfl rfl hin_9 dz_M_close_45 ?_
        refine lv_if_le (tgt := 62) hx hb dz_M_close_46 (by decide) (fun c_10 => ?_) (fun c_10 => ?_)
        · refine lv_iconst (v := 0) hx hb dz_M_close_62 (by decide) ?_
          refine lv_istore (lv' := [(4, .int 0), (0, .ref h0), (1, .int p1), (2, .long p2)]) hx hb dz_M_close_63 hl (by decide) rfl (fun ls hl => ?_)
          refine lv_iconst (v := nI 0) hx hb dz_M_close_65 (by decide) ?_
          refine lv_istore (lv' := [(5, .int (nI 0)), (4, .int 0), (0, .ref h0), (1, .int p1), (2, .long p2)]) hx hb dz_M_close_66 hl (by decide) rfl (fun ls hl => ?_)
          refine lv_iload hx hb dz_M_close_68 (lv_at hl 1 rfl) ?_
          refine lv_if_eq (tgt := 102) hx hb dz_M_close_70 (by decide) (fun c_11 => ?_) (fun c_11 => ?_)
          · refine lv_iload hx hb dz_M_close_102 (lv_at hl 1 rfl) ?_
            refine lv_if_eq (tgt := 119) hx hb dz_M_close_104 (by decide) (fun c_12 => ?_) (fun c_12 => ?_)
            · refine lv_aload_n hx hb dz_M_close_119 rfl (lv_at hl 2 rfl) ?_
              refine va_get (D := (dC, dI)) (ci := 3) (v := .ref a.2.1) (C := RzM) (T := TzM) (N := 18) hx hb hz inzM hown hK hP 0 rfl rfl 2 (by decide) (hz _ zi_238) (fun _ h9 => h9) rfl dz_M_close_120 ?_
              refine lv_iload_n hx hb dz_M_close_123 rfl (lv_at hl 3 rfl) ?_
              refine lv_iconst (v := 0) hx hb dz_M_close_124 (by decide) ?_
              have hin_13 : vp_in p1 61 := zm_isBox_in hok0 c_2
              refine va_iast hx hb hK hP hD hS 2 0 rfl rfl hin_13 dz_M_close_125 (fun H locs hP hD hS => ?_)
              obtain ⟨S_14, eS_14⟩ : ∃ z, z = zm_sdr S_6 (upd (zm_dr S_6) p1.toNatClampNeg 0) := ⟨_, rfl⟩
              have hP : va_P (dC, dI) vwCl (zm_W ci cj cz h0 a S_14) H := by rw [eS_14]; exact hP
              have hD : va_D A (zm_W ci cj cz h0 a S_14) := by rw [eS_14]; exact hD
              have hok : zm_ok S_14 := by rw [eS_14]; exact hok
              refine lv_iload hx hb dz_M_close_126 (lv_at hl 1 rfl) ?_
              refine lv_if_ne (tgt := 133) hx hb dz_M_close_128 (by decide) (fun c_15 => ?_) (fun c_15 => ?_)
              · exact absurd (by decide) c_15
              · refine lv_iconst (v := -1) hx hb dz_M_close_131 (by decide) ?_
                have hE_16 : zm_close M p1 p2 = ((-1), S_14) := by subst eS_6 eS_14; simp only [zm_close, if_neg c_2, if_pos c_4, if_pos c_8, if_pos c_10]
                exact W.iret (v := (-1)) hx hb hr (fun t ht hW => ⟨⟨_, (), rfl, by show (-1) = (zm_close M p1 p2).1; rw [hE_16], by show va_P (dC, dI) vwCl (zm_W ci cj cz h0 a ((zm_close M p1 p2).2)) t.heap; rw [ht, hE_16]; exact hP, by show va_D A (zm_W ci cj cz h0 a ((zm_close M p1 p2).2)); rw [hE_16]; exact hD⟩, hS.F ht⟩) hS.2.2 dz_M_close_132
            · exact absurd (by decide) c_12
          · exact absurd (by decide) c_11
        · refine lv_aload_n hx hb dz_M_close_49 rfl (lv_at hl 0 rfl) ?_
          refine va_get (D := (dC, dI)) (ci := 3) (v := .ref a.2.2.2.2.2.1) (C := RzM) (T := TzM) (N := 18) hx hb hz inzM hown hK hP 0 rfl rfl 6 (by decide) (hz _ zi_242) (fun _ h9 => h9) rfl dz_M_close_50 ?_
          refine lv_iload_n hx hb dz_M_close_53 rfl (lv_at hl 1 rfl) ?_
          have hin_17 : vp_in p1 61 := zm_isBox_in hok0 c_2
          refine va_iald hx hb hK hP 6 0 rfl rfl hin_17 dz_M_close_54 ?_
          refine lv_if_ge (tgt := 62) hx hb dz_M_close_55 (by decide) (fun c_18 => ?_) (fun c_18 => ?_)
          · refine lv_iconst (v := 0) hx hb dz_M_close_62 (by decide) ?_
            refine lv_istore (lv' := [(4, .int 0), (0, .ref h0), (1, .int p1), (2, .long p2)]) hx hb dz_M_close_63 hl (by decide) rfl (fun ls hl => ?_)
            refine lv_iconst (v := nI 0) hx hb dz_M_close_65 (by decide) ?_
            refine lv_istore (lv' := [(5, .int (nI 0)), (4, .int 0), (0, .ref h0), (1, .int p1), (2, .long p2)]) hx hb dz_M_close_66 hl (by decide) rfl (fun ls hl => ?_)
            refine lv_iload hx hb dz_M_close_68 (lv_at hl 1 rfl) ?_
            refine lv_if_eq (tgt := 102) hx hb dz_M_close_70 (by decide) (fun c_19 => ?_) (fun c_19 => ?_)
            · refine lv_iload hx hb dz_M_close_102 (lv_at hl 1 rfl) ?_
              refine lv_if_eq (tgt := 119) hx hb dz_M_close_104 (by decide) (fun c_20 => ?_) (fun c_20 => ?_)
              · refine lv_aload_n hx hb dz_M_close_119 rfl (lv_at hl 2 rfl) ?_
                refine va_get (D := (dC, dI)) (ci := 3) (v := .ref a.2.1) (C := RzM) (T := TzM) (N := 18) hx hb hz inzM hown hK hP 0 rfl rfl 2 (by decide) (hz _ zi_238) (fun _ h9 => h9) rfl dz_M_close_120 ?_
                refine lv_iload_n hx hb dz_M_close_123 rfl (lv_at hl 3 rfl) ?_
                refine lv_iconst (v := 0) hx hb dz_M_close_124 (by decide) ?_
                have hin_21 : vp_in p1 61 := zm_isBox_in hok0 c_2
                refine va_iast hx hb hK hP hD hS 2 0 rfl rfl hin_21 dz_M_close_125 (fun H locs hP hD hS => ?_)
                obtain ⟨S_22, eS_22⟩ : ∃ z, z = zm_sdr S_6 (upd (zm_dr S_6) p1.toNatClampNeg 0) := ⟨_, rfl⟩
                have hP : va_P (dC, dI) vwCl (zm_W ci cj cz h0 a S_22) H := by rw [eS_22]; exact hP
                have hD : va_D A (zm_W ci cj cz h0 a S_22) := by rw [eS_22]; exact hD
                have hok : zm_ok S_22 := by rw [eS_22]; exact hok
                refine lv_iload hx hb dz_M_close_126 (lv_at hl 1 rfl) ?_
                refine lv_if_ne (tgt := 133) hx hb dz_M_close_128 (by decide) (fun c_23 => ?_) (fun c_23 => ?_)
                · exact absurd (by decide) c_23
                · refine lv_iconst (v := -1) hx hb dz_M_close_131 (by decide) ?_
                  have hE_24 : zm_close M p1 p2 = ((-1), S_22) := by subst eS_6 eS_22; simp only [zm_close, if_neg c_2, if_pos c_4, if_pos c_8, if_neg c_10, if_pos c_18]
                  exact W.iret (v := (-1)) hx hb hr (fun t ht hW => ⟨⟨_, (), rfl, by show (-1) = (zm_close M p1 p2).1; rw [hE_24], by show va_P (dC, dI) vwCl (zm_W ci cj cz h0 a ((zm_close M p1 p2).2)) t.heap; rw [ht, hE_24]; exact hP, by show va_D A (zm_W ci cj cz h0 a ((zm_close M p1 p2).2)); rw [hE_24]; exact hD⟩, hS.F ht⟩) hS.2.2 dz_M_close_132
              · exact absurd (by decide) c_20
            · exact absurd (by decide) c_19
          · refine lv_iconst (v := 1) hx hb dz_M_close_58 (by decide) ?_
            refine lv_goto (tgt := 63) hx hb dz_M_close_59 (by decide) ?_
            refine lv_istore (lv' := [(4, .int 1), (0, .ref h0), (1, .int p1), (2, .long p2)]) hx hb dz_M_close_63 hl (by decide) rfl (fun ls hl => ?_)
            refine lv_iconst (v := nI 0) hx hb dz_M_close_65 (by decide) ?_
            refine lv_istore (lv' := [(5, .int (nI 0)), (4, .int 1), (0, .ref h0), (1, .int p1), (2, .long p2)]) hx hb dz_M_close_66 hl (by decide) rfl (fun ls hl => ?_)
            have hokS := hok
            have rest : ∀ (ls : Array Slot), lv_has ls 7 [(5, .int (nI (zm_at S_6 (zm_tn S_6) 0))), (4, .int 1), (0, .ref h0), (1, .int p1), (2, .long p2)] → W p l e (headSpec wz_M_close (zw_room 2 0 0)).room s m ([.ref h0, .int p1, .long p2] : List Value).toArray below meth c H locs 0 0 (MQ below (va_Qi (fun (r : Int32) (_ : Unit) => r = (zm_close M p1 p2).1) (fun (_ : Unit) (t : State) => va_P (dC, dI) vwCl (zm_W ci cj cz h0 a ((zm_close M p1 p2).2)) t.heap ∧ va_D A (zm_W ci cj cz h0 a ((zm_close M p1 p2).2))) A) ([.ref h0, .int p1, .long p2] : List Value).toArray s 0 0 A) (F0 m 102 ls []) := by
              intro ls hl
              refine lv_iload hx hb dz_M_close_102 (lv_at hl 1 rfl) ?_
              refine lv_if_eq (tgt := 119) hx hb dz_M_close_104 (by decide) (fun c_25 => ?_) (fun c_25 => ?_)
              · exact absurd c_25 (by decide)
              · refine lv_iload hx hb dz_M_close_107 (lv_at hl 0 rfl) ?_
                refine lv_aload_n hx hb dz_M_close_109 rfl (lv_at hl 2 rfl) ?_
                refine va_get (D := (dC, dI)) (ci := 3) (v := .int (nI (zm_tn S_6))) (C := RzM) (T := TzM) (N := 18) hx hb hz inzM hown hK hP 0 rfl rfl 14 (by decide) (hz _ zi_250) (fun _ h9 => h9) rfl dz_M_close_110 ?_
                refine lv_icmp_ne (tgt := 119) hx hb dz_M_close_113 (by decide) (fun c_26 => ?_) (fun c_26 => ?_)
                · have hXl : zm_at S_6 (zm_tn S_6) 0 < zm_tn S_6 := zm_at_lt hok c_26
                  refine lv_aload_n hx hb dz_M_close_119 rfl (lv_at hl 2 rfl) ?_
                  refine va_get (D := (dC, dI)) (ci := 3) (v := .ref a.2.1) (C := RzM) (T := TzM) (N := 18) hx hb hz inzM hown hK hP 0 rfl rfl 2 (by decide) (hz _ zi_238) (fun _ h9 => h9) rfl dz_M_close_120 ?_
                  refine lv_iload_n hx hb dz_M_close_123 rfl (lv_at hl 3 rfl) ?_
                  refine lv_iconst (v := 0) hx hb dz_M_close_124 (by decide) ?_
                  have hin_27 : vp_in p1 61 := zm_isBox_in hok0 c_2
                  refine va_iast hx hb hK hP hD hS 2 0 rfl rfl hin_27 dz_M_close_125 (fun H locs hP hD hS => ?_)
                  obtain ⟨S_28, eS_28⟩ : ∃ z, z = zm_sdr S_6 (upd (zm_dr S_6) p1.toNatClampNeg 0) := ⟨_, rfl⟩
                  have hP : va_P (dC, dI) vwCl (zm_W ci cj cz h0 a S_28) H := by rw [eS_28]; exact hP
                  have hD : va_D A (zm_W ci cj cz h0 a S_28) := by rw [eS_28]; exact hD
                  have hok : zm_ok S_28 := by rw [eS_28]; exact hok
                  have hXl : zm_at S_6 (zm_tn S_6) 0 < zm_tn S_28 := by rw [eS_28]; exact hXl
                  refine lv_iload hx hb dz_M_close_126 (lv_at hl 1 rfl) ?_
                  refine lv_if_ne (tgt := 133) hx hb dz_M_close_128 (by decide) (fun c_29 => ?_) (fun c_29 => ?_)
                  · refine lv_aload_n hx hb dz_M_close_133 rfl (lv_at hl 2 rfl) ?_
                    refine va_get (D := (dC, dI)) (ci := 3) (v := .ref a.2.2.2.2.2.1) (C := RzM) (T := TzM) (N := 18) hx hb hz inzM hown hK hP 0 rfl rfl 6 (by decide) (hz _ zi_242) (fun _ h9 => h9) rfl dz_M_close_134 ?_
                    refine lv_iload_n hx hb dz_M_close_137 rfl (lv_at hl 3 rfl) ?_
                    refine lv_aload_n hx hb dz_M_close_138 rfl (lv_at hl 2 rfl) ?_
                    refine va_get (D := (dC, dI)) (ci := 3) (v := .ref a.2.2.2.2.2.2.2.2.2.1) (C := RzM) (T := TzM) (N := 18) hx hb hz inzM hown hK hP 0 rfl rfl 15 (by decide) (hz _ zi_251) (fun _ h9 => h9) rfl dz_M_close_139 ?_
                    refine lv_iload hx hb dz_M_close_142 (lv_at hl 0 rfl) ?_
                    have hin_30 : vp_in (nI (zm_at S_6 (zm_tn S_6) 0)) 200 := vp_in_nI (by have := hok.2.1; omega) (by decide)
                    refine va_iald hx hb hK hP 10 0 rfl rfl hin_30 dz_M_close_144 ?_
                    refine W.eq (g2 := F0 m 145 ls [.int (zm_tp S_28 (zm_at S_6 (zm_tn S_6) 0)), .int p1, .ref a.2.2.2.2.2.1]) (congrArg (fun z => F0 m 145 ls (.int ((zm_tp S_28) z) :: [.int p1, .ref a.2.2.2.2.2.1])) (nI_clamp (by have := hok.1; have := hok.2.1; have := hok.2.2; omega))) ?_
                    have hin_31 : vp_in p1 61 := zm_isBox_in hok0 c_2
                    refine va_iast hx hb hK hP hD hS 6 0 rfl rfl hin_31 dz_M_close_145 (fun H locs hP hD hS => ?_)
                    obtain ⟨S_32, eS_32⟩ : ∃ z, z = zm_sco S_28 (upd (zm_co S_28) p1.toNatClampNeg (zm_tp S_28 (zm_at S_6 (zm_tn S_6) 0))) := ⟨_, rfl⟩
                    have hP : va_P (dC, dI) vwCl (zm_W ci cj cz h0 a S_32) H := by rw [eS_32]; exact hP
                    have hD : va_D A (zm_W ci cj cz h0 a S_32) := by rw [eS_32]; exact hD
                    have hok : zm_ok S_32 := by rw [eS_32]; exact hok
                    have hXl : zm_at S_6 (zm_tn S_6) 0 < zm_tn S_32 := by rw [eS_32]; exact hXl
                    refine lv_aload_n hx hb dz_M_close_146 rfl (lv_at hl 2 rfl) ?_
                    refine va_get (D := (dC, dI)) (ci := 3) (v := .ref a.2.2.2.2.2.2.1) (C := RzM) (T := TzM) (N := 18) hx hb hz inzM hown hK hP 0 rfl rfl 7 (by decide) (hz _ zi_243) (fun _ h9 => h9) rfl dz_M_close_147 ?_
                    refine lv_iload_n hx hb dz_M_close_150 rfl (lv_at hl 3 rfl) ?_
                    refine lv_lload_n hx hb dz_M_close_151 rfl (lv_at hl 4 rfl) ?_
                    have hin_33 : vp_in p1 61 := zm_isBox_in hok0 c_2
                    refine va_last hx hb hK hP hD hS 7 1 rfl rfl hin_33 dz_M_close_152 (fun H locs hP hD hS => ?_)
                    obtain ⟨S_34, eS_34⟩ : ∃ z, z = zm_sli S_32 (vp_updL (zm_li S_32) p1.toNatClampNeg p2) := ⟨_, rfl⟩
                    have hP : va_P (dC, dI) vwCl (zm_W ci cj cz h0 a S_34) H := by rw [eS_34]; exact hP
                    have hD : va_D A (zm_W ci cj cz h0 a S_34) := by rw [eS_34]; exact hD
                    have hok : zm_ok S_34 := by rw [eS_34]; exact hok
                    have hXl : zm_at S_6 (zm_tn S_6) 0 < zm_tn S_34 := by rw [eS_34]; exact hXl
                    refine lv_aload_n hx hb dz_M_close_153 rfl (lv_at hl 2 rfl) ?_
                    refine va_get (D := (dC, dI)) (ci := 3) (v := .ref a.2.2.2.2.2.2.2.1) (C := RzM) (T := TzM) (N := 18) hx hb hz inzM hown hK hP 0 rfl rfl 8 (by decide) (hz _ zi_244) (fun _ h9 => h9) rfl dz_M_close_154 ?_
                    refine lv_iload_n hx hb dz_M_close_157 rfl (lv_at hl 3 rfl) ?_
                    refine lv_iconst (v := 0) hx hb dz_M_close_158 (by decide) ?_
                    have hin_35 : vp_in p1 61 := zm_isBox_in hok0 c_2
                    refine va_zast hx hb hK hP hD hS 8 2 rfl rfl hin_35 dz_M_close_159 (fun H locs hP hD hS => ?_)
                    rw [zm_n0] at hP hD
                    obtain ⟨S_36, eS_36⟩ : ∃ z, z = zm_sla S_34 (upd (zm_la S_34) p1.toNatClampNeg 0) := ⟨_, rfl⟩
                    have hP : va_P (dC, dI) vwCl (zm_W ci cj cz h0 a S_36) H := by rw [eS_36]; exact hP
                    have hD : va_D A (zm_W ci cj cz h0 a S_36) := by rw [eS_36]; exact hD
                    have hok : zm_ok S_36 := by rw [eS_36]; exact hok
                    have hXl : zm_at S_6 (zm_tn S_6) 0 < zm_tn S_36 := by rw [eS_36]; exact hXl
                    refine lv_aload_n hx hb dz_M_close_160 rfl (lv_at hl 2 rfl) ?_
                    refine lv_aload_n hx hb dz_M_close_161 rfl (lv_at hl 2 rfl) ?_
                    refine va_get (D := (dC, dI)) (ci := 3) (v := .int (nI (zm_tn S_36))) (C := RzM) (T := TzM) (N := 18) hx hb hz inzM hown hK hP 0 rfl rfl 14 (by decide) (hz _ zi_250) (fun _ h9 => h9) rfl dz_M_close_162 ?_
                    refine lv_iload hx hb dz_M_close_165 (lv_at hl 0 rfl) ?_
                    refine lv_isub hx hb dz_M_close_167 ?_
                    refine W.eq (g2 := F0 m 168 ls [.int (nI (zm_tn S_36 - zm_at S_6 (zm_tn S_6) 0)), .ref h0]) (congrArg (fun z => F0 m 168 ls (.int z :: [.ref h0])) (pk_sub (Nat.le_of_lt hXl))) ?_
                    refine lv_iconst (v := 1) hx hb dz_M_close_168 (by decide) ?_
                    refine lv_isub hx hb dz_M_close_169 ?_
                    refine W.eq (g2 := F0 m 170 ls [.int (nI (zm_tn S_36 - zm_at S_6 (zm_tn S_6) 0 - 1)), .ref h0]) (congrArg (fun z => F0 m 170 ls (.int z :: [.ref h0])) (pk_sub (b := 1) (by omega))) ?_
                    have hne : zm_tn S_36 - zm_at S_6 (zm_tn S_6) 0 - 1 + zm_at S_6 (zm_tn S_6) 0 + 1 = zm_tn S_36 := by omega
                    have h200 : zm_tn S_36 ≤ 200 := hok.2.1
                    refine va_put (D := (dC, dI)) (ci := 3) (v := .int (nI (zm_tn S_36 - zm_at S_6 (zm_tn S_6) 0 - 1))) (ty := .int) (C := RzM) (T := TzM) (N := 18) hx hb hz inzM tyzM tyzM_ok nmzM hown hK hP hD hS 0 rfl rfl 14 (by decide) (hz _ zi_250) (fun _ h9 => h9) rfl (by decide +kernel) rfl rfl (Nat.le_of_ble_eq_true rfl) dz_M_close_170 (fun H locs hP hD hS => ?_)
                    obtain ⟨S_37, eS_37⟩ : ∃ z, z = zm_stn S_36 (zm_tn S_36 - zm_at S_6 (zm_tn S_6) 0 - 1) := ⟨_, rfl⟩
                    have hP : va_P (dC, dI) vwCl (zm_W ci cj cz h0 a S_37) H := by rw [eS_37]; exact hP
                    have hD : va_D A (zm_W ci cj cz h0 a S_37) := by rw [eS_37]; exact hD
                    refine lv_iconst (v := nI 0) hx hb dz_M_close_173 (by decide) ?_
                    refine lv_istore (lv' := [(6, .int (nI 0)), (5, .int (nI (zm_at S_6 (zm_tn S_6) 0))), (4, .int 1), (0, .ref h0), (1, .int p1), (2, .long p2)]) hx hb dz_M_close_174 hl (by decide) rfl (fun ls hl => ?_)
                    have hne : zm_tn S_37 + (zm_at S_6 (zm_tn S_6) 0) + 1 ≤ 200 := by rw [eS_37]; show zm_tn S_36 - (zm_at S_6 (zm_tn S_6) 0) - 1 + (zm_at S_6 (zm_tn S_6) 0) + 1 ≤ 200; omega
                    have loop2 : ∀ (k j : Nat) (f : Nat → Int32) (S_38 : zm_S) (H : Heap) (locs : List Loc) (ls : Array Slot), S_38 = zm_stp S_37 f → j + k = zm_tn S_37 → zm_sh (zm_at S_6 (zm_tn S_6) 0) (zm_tn S_37) 0 (zm_tp S_37) = zm_sh (zm_at S_6 (zm_tn S_6) 0) k j f → va_P (dC, dI) vwCl (zm_W ci cj cz h0 a S_38) H → va_D A (zm_W ci cj cz h0 a S_38) → va_S A s.heap H locs → lv_has ls 7 [(6, .int (nI j)), (5, .int (nI (zm_at S_6 (zm_tn S_6) 0))), (0, .ref h0), (1, .int p1), (2, .long p2)] → W p l e (headSpec wz_M_close (zw_room 2 0 0)).room s m ([.ref h0, .int p1, .long p2] : List Value).toArray below meth c H locs 0 0 (MQ below (va_Qi (fun (r : Int32) (_ : Unit) => r = (zm_close M p1 p2).1) (fun (_ : Unit) (t : State) => va_P (dC, dI) vwCl (zm_W ci cj cz h0 a ((zm_close M p1 p2).2)) t.heap ∧ va_D A (zm_W ci cj cz h0 a ((zm_close M p1 p2).2))) A) ([.ref h0, .int p1, .long p2] : List Value).toArray s 0 0 A) (F0 m 176 ls []) := by
                      intro k
                      induction k with
                      | zero =>
                        intro j f S_38 H locs ls eS_38 hjk hinv hP hD hS hl
                        have hn2 : zm_tn S_38 = zm_tn S_37 := by rw [eS_38]; rfl
                        have hinv : zm_sh (zm_at S_6 (zm_tn S_6) 0) (zm_tn S_37) 0 (zm_tp S_37) = f := hinv
                        subst hinv
                        refine lv_iload hx hb dz_M_close_176 (lv_at hl 0 rfl) ?_
                        refine lv_aload_n hx hb dz_M_close_178 rfl (lv_at hl 2 rfl) ?_
                        refine va_get (D := (dC, dI)) (ci := 3) (v := .int (nI (zm_tn S_38))) (C := RzM) (T := TzM) (N := 18) hx hb hz inzM hown hK hP 0 rfl rfl 14 (by decide) (hz _ zi_250) (fun _ h9 => h9) rfl dz_M_close_179 ?_
                        refine lv_icmp_ge (tgt := 210) hx hb dz_M_close_182 (by decide) (fun c_39 => ?_) (fun c_39 => ?_)
                        · refine lv_aload_n hx hb dz_M_close_210 rfl (lv_at hl 2 rfl) ?_
                          refine va_get (D := (dC, dI)) (ci := 3) (v := .ref a.2.2.2.2.2.1) (C := RzM) (T := TzM) (N := 18) hx hb hz inzM hown hK hP 0 rfl rfl 6 (by decide) (hz _ zi_242) (fun _ h9 => h9) rfl dz_M_close_211 ?_
                          refine lv_iload_n hx hb dz_M_close_214 rfl (lv_at hl 3 rfl) ?_
                          have hin_40 : vp_in p1 61 := zm_isBox_in hok0 c_2
                          refine va_iald hx hb hK hP 6 0 rfl rfl hin_40 dz_M_close_215 ?_
                          have hE_41 : zm_close M p1 p2 = (zm_co S_38 p1.toNatClampNeg, S_38) := by subst eS_6 eS_28 eS_32 eS_34 eS_36 eS_37 eS_38; simp only [zm_close, if_neg c_2, if_pos c_4, if_pos c_8, if_neg c_10, if_neg c_18, if_neg c_26]
                          exact W.iret (v := zm_co S_38 p1.toNatClampNeg) hx hb hr (fun t ht hW => ⟨⟨_, (), rfl, by show zm_co S_38 p1.toNatClampNeg = (zm_close M p1 p2).1; rw [hE_41], by show va_P (dC, dI) vwCl (zm_W ci cj cz h0 a ((zm_close M p1 p2).2)) t.heap; rw [ht, hE_41]; exact hP, by show va_D A (zm_W ci cj cz h0 a ((zm_close M p1 p2).2)); rw [hE_41]; exact hD⟩, hS.F ht⟩) hS.2.2 dz_M_close_216
                        · exact absurd (nI_le (by omega) (by omega)) c_39
                      | succ k ih =>
                        intro j f S_38 H locs ls eS_38 hjk hinv hP hD hS hl
                        have hn2 : zm_tn S_38 = zm_tn S_37 := by rw [eS_38]; rfl
                        have hj : j < zm_tn S_37 := by omega
                        refine lv_iload hx hb dz_M_close_176 (lv_at hl 0 rfl) ?_
                        refine lv_aload_n hx hb dz_M_close_178 rfl (lv_at hl 2 rfl) ?_
                        refine va_get (D := (dC, dI)) (ci := 3) (v := .int (nI (zm_tn S_38))) (C := RzM) (T := TzM) (N := 18) hx hb hz inzM hown hK hP 0 rfl rfl 14 (by decide) (hz _ zi_250) (fun _ h9 => h9) rfl dz_M_close_179 ?_
                        refine lv_icmp_ge (tgt := 210) hx hb dz_M_close_182 (by decide) (fun c_42 => ?_) (fun c_42 => ?_)
                        · exact absurd c_42 (nI_ge (by omega) (by omega))
                        · refine lv_aload_n hx hb dz_M_close_185 rfl (lv_at hl 2 rfl) ?_
                          refine va_get (D := (dC, dI)) (ci := 3) (v := .ref a.2.2.2.2.2.2.2.2.2.1) (C := RzM) (T := TzM) (N := 18) hx hb hz inzM hown hK hP 0 rfl rfl 15 (by decide) (hz _ zi_251) (fun _ h9 => h9) rfl dz_M_close_186 ?_
                          refine lv_iload hx hb dz_M_close_189 (lv_at hl 0 rfl) ?_
                          refine lv_aload_n hx hb dz_M_close_191 rfl (lv_at hl 2 rfl) ?_
                          refine va_get (D := (dC, dI)) (ci := 3) (v := .ref a.2.2.2.2.2.2.2.2.2.1) (C := RzM) (T := TzM) (N := 18) hx hb hz inzM hown hK hP 0 rfl rfl 15 (by decide) (hz _ zi_251) (fun _ h9 => h9) rfl dz_M_close_192 ?_
                          refine lv_iload hx hb dz_M_close_195 (lv_at hl 0 rfl) ?_
                          refine lv_iload hx hb dz_M_close_197 (lv_at hl 1 rfl) ?_
                          refine lv_iadd hx hb dz_M_close_199 ?_
                          refine W.eq (g2 := F0 m 200 ls [.int (nI (j + zm_at S_6 (zm_tn S_6) 0)), .ref a.2.2.2.2.2.2.2.2.2.1, .int (nI j), .ref a.2.2.2.2.2.2.2.2.2.1]) (congrArg (fun z => F0 m 200 ls (.int z :: [.ref a.2.2.2.2.2.2.2.2.2.1, .int (nI j), .ref a.2.2.2.2.2.2.2.2.2.1])) (nI_add _ _)) ?_
                          refine lv_iconst (v := 1) hx hb dz_M_close_200 (by decide) ?_
                          refine lv_iadd hx hb dz_M_close_201 ?_
                          refine W.eq (g2 := F0 m 202 ls [.int (nI (j + zm_at S_6 (zm_tn S_6) 0 + 1)), .ref a.2.2.2.2.2.2.2.2.2.1, .int (nI j), .ref a.2.2.2.2.2.2.2.2.2.1]) (congrArg (fun z => F0 m 202 ls (.int z :: [.ref a.2.2.2.2.2.2.2.2.2.1, .int (nI j), .ref a.2.2.2.2.2.2.2.2.2.1])) (nI_1 _)) ?_
                          have hin_43 : vp_in (nI (j + zm_at S_6 (zm_tn S_6) 0 + 1)) 200 := vp_in_nI (by omega) (by decide)
                          refine va_iald hx hb hK hP 10 0 rfl rfl hin_43 dz_M_close_202 ?_
                          refine W.eq (g2 := F0 m 203 ls [.int (zm_tp S_38 (j + zm_at S_6 (zm_tn S_6) 0 + 1)), .int (nI j), .ref a.2.2.2.2.2.2.2.2.2.1]) (congrArg (fun z => F0 m 203 ls (.int ((zm_tp S_38) z) :: [.int (nI j), .ref a.2.2.2.2.2.2.2.2.2.1])) (nI_clamp (by omega))) ?_
                          have hin_44 : vp_in (nI j) 200 := vp_in_nI (by omega) (by decide)
                          refine va_iast hx hb hK hP hD hS 10 0 rfl rfl hin_44 dz_M_close_203 (fun H locs hP hD hS => ?_)
                          rw [show (nI j).toNatClampNeg = j from nI_clamp (by omega)] at hP hD
                          obtain ⟨S_45, eS_45⟩ : ∃ z, z = zm_stp S_38 (upd (zm_tp S_38) j (zm_tp S_38 (j + zm_at S_6 (zm_tn S_6) 0 + 1))) := ⟨_, rfl⟩
                          have hP : va_P (dC, dI) vwCl (zm_W ci cj cz h0 a S_45) H := by rw [eS_45]; exact hP
                          have hD : va_D A (zm_W ci cj cz h0 a S_45) := by rw [eS_45]; exact hD
                          refine lv_iinc (v := nI (j + 1)) (lv' := [(6, .int (nI (j + 1))), (5, .int (nI (zm_at S_6 (zm_tn S_6) 0))), (0, .ref h0), (1, .int p1), (2, .long p2)]) hx hb dz_M_close_204 hl (k := 0) rfl (nI_1 _) (by decide) rfl (fun ls hl => ?_)
                          refine lv_goto (tgt := 176) hx hb dz_M_close_207 (by decide) ?_
                          exact ih (j + 1) (upd f j (f (j + zm_at S_6 (zm_tn S_6) 0 + 1))) S_45 H locs ls (by rw [eS_45, eS_38]; rfl) (by omega) (by rw [hinv]; rfl) hP hD hS (lv_sub hl [0, 1, 2, 3, 4] rfl)
                    exact loop2 (zm_tn S_37) 0 (zm_tp S_37) S_37 H locs ls rfl (by omega) rfl hP hD hS (lv_sub hl [0, 1, 3, 4, 5] rfl)
                  · exact absurd c_29 (by decide)
                · refine lv_bipush (v := -14) hx hb dz_M_close_116 (by decide) ?_
                  have hE_46 : zm_close M p1 p2 = ((-14), S_6) := by subst eS_6; simp only [zm_close, if_neg c_2, if_pos c_4, if_pos c_8, if_neg c_10, if_neg c_18, if_pos c_26]
                  exact W.iret (v := (-14)) hx hb hr (fun t ht hW => ⟨⟨_, (), rfl, by show (-14) = (zm_close M p1 p2).1; rw [hE_46], by show va_P (dC, dI) vwCl (zm_W ci cj cz h0 a ((zm_close M p1 p2).2)) t.heap; rw [ht, hE_46]; exact hP, by show va_D A (zm_W ci cj cz h0 a ((zm_close M p1 p2).2)); rw [hE_46]; exact hD⟩, hS.F ht⟩) hS.2.2 dz_M_close_118
            have loop : ∀ (k j : Nat) (ls : Array Slot), j + k = zm_tn S_6 → zm_at S_6 (zm_tn S_6) 0 = zm_at S_6 k j → lv_has ls 7 [(5, .int (nI j)), (4, .int 1), (0, .ref h0), (1, .int p1), (2, .long p2)] → W p l e (headSpec wz_M_close (zw_room 2 0 0)).room s m ([.ref h0, .int p1, .long p2] : List Value).toArray below meth c H locs 0 0 (MQ below (va_Qi (fun (r : Int32) (_ : Unit) => r = (zm_close M p1 p2).1) (fun (_ : Unit) (t : State) => va_P (dC, dI) vwCl (zm_W ci cj cz h0 a ((zm_close M p1 p2).2)) t.heap ∧ va_D A (zm_W ci cj cz h0 a ((zm_close M p1 p2).2))) A) ([.ref h0, .int p1, .long p2] : List Value).toArray s 0 0 A) (F0 m 68 ls []) := by
              intro k
              induction k with
              | zero =>
                intro j ls hjk hinv hl
                refine lv_iload hx hb dz_M_close_68 (lv_at hl 1 rfl) ?_
                refine lv_if_eq (tgt := 102) hx hb dz_M_close_70 (by decide) (fun c_47 => ?_) (fun c_47 => ?_)
                · exact absurd c_47 (by decide)
                · refine lv_iload hx hb dz_M_close_73 (lv_at hl 0 rfl) ?_
                  refine lv_aload_n hx hb dz_M_close_75 rfl (lv_at hl 2 rfl) ?_
                  refine va_get (D := (dC, dI)) (ci := 3) (v := .int (nI (zm_tn S_6))) (C := RzM) (T := TzM) (N := 18) hx hb hz inzM hown hK hP 0 rfl rfl 14 (by decide) (hz _ zi_250) (fun _ h9 => h9) rfl dz_M_close_76 ?_
                  refine lv_icmp_ge (tgt := 102) hx hb dz_M_close_79 (by decide) (fun c_48 => ?_) (fun c_48 => ?_)
                  · exact rest ls (by rw [hinv]; exact lv_sub hl [0, 1, 2, 3, 4] rfl)
                  · exact absurd (nI_le (by omega) (by have := hok.2.1; omega)) c_48
              | succ k ih =>
                intro j ls hjk hinv hl
                have hj : j < zm_tn S_6 := by omega
                refine lv_iload hx hb dz_M_close_68 (lv_at hl 1 rfl) ?_
                refine lv_if_eq (tgt := 102) hx hb dz_M_close_70 (by decide) (fun c_49 => ?_) (fun c_49 => ?_)
                · exact absurd c_49 (by decide)
                · refine lv_iload hx hb dz_M_close_73 (lv_at hl 0 rfl) ?_
                  refine lv_aload_n hx hb dz_M_close_75 rfl (lv_at hl 2 rfl) ?_
                  refine va_get (D := (dC, dI)) (ci := 3) (v := .int (nI (zm_tn S_6))) (C := RzM) (T := TzM) (N := 18) hx hb hz inzM hown hK hP 0 rfl rfl 14 (by decide) (hz _ zi_250) (fun _ h9 => h9) rfl dz_M_close_76 ?_
                  refine lv_icmp_ge (tgt := 102) hx hb dz_M_close_79 (by decide) (fun c_50 => ?_) (fun c_50 => ?_)
                  · exact absurd c_50 (nI_ge (by omega) (by have := hok.2.1; omega))
                  · refine lv_aload_n hx hb dz_M_close_82 rfl (lv_at hl 2 rfl) ?_
                    refine lv_aload_n hx hb dz_M_close_83 rfl (lv_at hl 2 rfl) ?_
                    refine va_get (D := (dC, dI)) (ci := 3) (v := .ref a.2.2.2.2.2.2.2.2.2.1) (C := RzM) (T := TzM) (N := 18) hx hb hz inzM hown hK hP 0 rfl rfl 15 (by decide) (hz _ zi_251) (fun _ h9 => h9) rfl dz_M_close_84 ?_
                    refine lv_iload hx hb dz_M_close_87 (lv_at hl 0 rfl) ?_
                    have hin_51 : vp_in (nI j) 200 := vp_in_nI (by have := hok.2.1; omega) (by decide)
                    refine va_iald hx hb hK hP 10 0 rfl rfl hin_51 dz_M_close_89 ?_
                    refine W.eq (g2 := F0 m 90 ls [.int (zm_tp S_6 j), .ref h0]) (congrArg (fun z => F0 m 90 ls (.int ((zm_tp S_6) z) :: [.ref h0])) (nI_clamp (by have := hok.1; have := hok.2.1; have := hok.2.2; omega))) ?_
                    refine vp_callSi (va_Run.run (va_runV (As := [.int (zm_tp S_6 j)]) (rest := []) ⟨hx, hb, hml, hown, hz⟩ (ct_M_isCode l dC dI ci cj cz h0 a S_6 hok (zm_tp S_6 j)) (cwV 1 hz (zw_gV zi_312 zi_313 zi_29 zi_35 zi_314) rfl rfl rfl (by decide +kernel) ⟨Nat.le_of_ble_eq_true rfl, Nat.le_of_ble_eq_true rfl⟩) (zw_preRV zw_ns_ok hP hK hN (ci := 3) rfl (k := 0) rfl) rfl rfl hl.1 rfl (lv_room (Nat.le_of_ble_eq_true rfl)) dz_M_close_90 ⟨Nat.le_of_ble_eq_true rfl, Nat.le_of_ble_eq_true rfl⟩)) (fun r_52 hr_52 => ?_)
                    have hr_52 : r_52 = zm_isCode S_6 (zm_tp S_6 j) := hr_52
                    subst hr_52
                    refine lv_if_eq (tgt := 102) hx hb dz_M_close_93 (by decide) (fun c_53 => ?_) (fun c_53 => ?_)
                    · exact rest ls (by rw [hinv]; simp only [zm_at, if_pos c_53]; exact lv_sub hl [0, 1, 2, 3, 4] rfl)
                    · refine lv_iinc (v := nI (j + 1)) (lv' := [(5, .int (nI (j + 1))), (4, .int 1), (0, .ref h0), (1, .int p1), (2, .long p2)]) hx hb dz_M_close_96 hl (k := 0) rfl (nI_1 _) (by decide) rfl (fun ls hl => ?_)
                      refine lv_goto (tgt := 68) hx hb dz_M_close_99 (by decide) ?_
                      exact ih (j + 1) ls (by omega) (by rw [hinv]; simp only [zm_at, if_neg c_53]) (lv_sub hl [0, 1, 2, 3, 4] rfl)
            exact loop (zm_tn S_6) 0 ls (by omega) rfl (lv_sub hl [0, 1, 2, 3, 4] rfl)
      · refine lv_bipush (v := -13) hx hb dz_M_close_37 (by decide) ?_
        have hE_54 : zm_close M p1 p2 = ((-13), S_6) := by subst eS_6; simp only [zm_close, if_neg c_2, if_pos c_4, if_neg c_8]
        exact W.iret (v := (-13)) hx hb hr (fun t ht hW => ⟨⟨_, (), rfl, by show (-13) = (zm_close M p1 p2).1; rw [hE_54], by show va_P (dC, dI) vwCl (zm_W ci cj cz h0 a ((zm_close M p1 p2).2)) t.heap; rw [ht, hE_54]; exact hP, by show va_D A (zm_W ci cj cz h0 a ((zm_close M p1 p2).2)); rw [hE_54]; exact hD⟩, hS.F ht⟩) hS.2.2 dz_M_close_39
    · refine lv_bipush (v := -12) hx hb dz_M_close_19 (by decide) ?_
      have hE_55 : zm_close M p1 p2 = ((-12), M) := by simp only [zm_close, if_neg c_2, if_neg c_4]
      exact W.iret (v := (-12)) hx hb hr (fun t ht hW => ⟨⟨_, (), rfl, by show (-12) = (zm_close M p1 p2).1; rw [hE_55], by show va_P (dC, dI) vwCl (zm_W ci cj cz h0 a ((zm_close M p1 p2).2)) t.heap; rw [ht, hE_55]; exact hP, by show va_D A (zm_W ci cj cz h0 a ((zm_close M p1 p2).2)); rw [hE_55]; exact hD⟩, hS.F ht⟩) hS.2.2 dz_M_close_21
  · refine lv_bipush (v := -11) hx hb dz_M_close_8 (by decide) ?_
    have hE_56 : zm_close M p1 p2 = ((-11), M) := by simp only [zm_close, if_pos c_2]
    exact W.iret (v := (-11)) hx hb hr (fun t ht hW => ⟨⟨_, (), rfl, by show (-11) = (zm_close M p1 p2).1; rw [hE_56], by show va_P (dC, dI) vwCl (zm_W ci cj cz h0 a ((zm_close M p1 p2).2)) t.heap; rw [ht, hE_56]; exact hP, by show va_D A (zm_W ci cj cz h0 a ((zm_close M p1 p2).2)); rw [hE_56]; exact hD⟩, hS.F ht⟩) hS.2.2 dz_M_close_10
end
section
set_option maxHeartbeats 4000000 in
set_option maxRecDepth 100000 in
theorem ct_M_door (l : Launch) (dC : Nat → ClassId) (dI : Nat → Nat → Nat) (ci cj cz : ClassId) (h0 : Nat) (a : zm_Ad) (M : zm_S) (hok : zm_ok M) (sz : Nat) (p1 : Int32) (p2 : Int32) (p3 : Int64) : Met l yz_M_door wz_M_door (zw_room 2 0 0) (zw_U zw_ns (dC, dI) vwCl (zm_tys ci cj cz) [.ref h0, .int p1, .int p2, .long p3] (zm_W ci cj cz h0 a M) sz) (va_Qi (fun (r : Int32) (_ : Unit) => r = (zm_door M p1 p2 p3).1) (fun (_ : Unit) (t : State) => va_P (dC, dI) vwCl (zm_W ci cj cz h0 a ((zm_door M p1 p2 p3).2)) t.heap ∧ va_D (va_A (zm_W ci cj cz h0 a M) sz) (zm_W ci cj cz h0 a ((zm_door M p1 p2 p3).2))) (va_A (zm_W ci cj cz h0 a M) sz)) 0 0 (va_A (zm_W ci cj cz h0 a M) sz) := by
  refine Met.ofW (cc := cz_M_door) (maxL := 7) (ret := (some .int)) (by decide) rfl ?_
  intro p e s m args below meth c s₁ B hml hv
  obtain ⟨rfl, hsz, hP, hK, hD0, hN⟩ := hv
  have hx := B.exec
  have hb := B.bytes
  have hr := B.returns
  have hts := atoms_spec (ws := wz_M_door) B.pre
  have hz : ∀ w ∈ zw_T, w.before ([.ref h0, .int p1, .int p2, .long p3] : List Value).toArray s = true := fun w h => hts w (List.mem_cons_of_mem _ h)
  have hown : s.vm.findClass RzM = some m.cls := findClass_of_methodNamed B.named
  have hlocks := B.notSynchronized
  have hok0 := hok
  subst hsz
  have hD := hD0.self (sz := s.heap.size)
  generalize hAe : va_A (zm_W ci cj cz h0 a M) s.heap.size = A at hD ⊢
  have hA : ∀ q : Nat, s.heap.size ≤ q → A q := fun q h => by rw [← hAe]; exact Or.inr h
  have hS : va_S A s.heap s.heap [] := va_S.rf
  have hl := lv_entry ([.ref h0, .int p1, .int p2, .long p3]) (n := 7) (Nat.le_of_ble_eq_true rfl)
  rw [lg_entry_eq]
  generalize (lg_sl ([.ref h0, .int p1, .int p2, .long p3]) ++ List.replicate (7 - (lg_sl ([.ref h0, .int p1, .int p2, .long p3])).length) Slot.unset).toArray = ls at hl ⊢
  have hl : lv_has ls 7 [(0, .ref h0), (1, .int p1), (2, .int p2), (3, .long p3)] := hl
  refine lv_aload_n hx hb dz_M_door_0 rfl (lv_at hl 0 rfl) ?_
  refine lv_iload_n hx hb dz_M_door_1 rfl (lv_at hl 1 rfl) ?_
  refine vp_callSi (va_Run.run (va_runV (As := [.int p1]) (rest := []) ⟨hx, hb, hml, hown, hz⟩ (ct_M_isBox l dC dI ci cj cz h0 a M hok p1) (cwV 1 hz (zw_gV zi_296 zi_297 zi_26 zi_35 zi_298) rfl rfl rfl (by decide +kernel) ⟨Nat.le_of_ble_eq_true rfl, Nat.le_of_ble_eq_true rfl⟩) (zw_preRV zw_ns_ok hP hK hN (ci := 3) rfl (k := 0) rfl) rfl rfl hl.1 rfl (lv_room (Nat.le_of_ble_eq_true rfl)) dz_M_door_2 ⟨Nat.le_of_ble_eq_true rfl, Nat.le_of_ble_eq_true rfl⟩)) (fun r_1 hr_1 => ?_)
  have hr_1 : r_1 = zm_isBox M p1 := hr_1
  subst hr_1
  refine lv_if_ne (tgt := 11) hx hb dz_M_door_5 (by decide) (fun c_2 => ?_) (fun c_2 => ?_)
  · refine lv_iload_n hx hb dz_M_door_11 rfl (lv_at hl 2 rfl) ?_
    refine lv_i2l (v := p2.toInt64) hx hb dz_M_door_12 rfl ?_
    refine lv_lconst (v := 0) hx hb dz_M_door_13 (by decide) ?_
    refine lv_ldc2 (v := 4) hx hb hown (hz _ zi_334) dz_M_door_14 ?_
    refine vp_callSi (va_Run.run (va_runS (As := [.long p2.toInt64, .long 0, .long 4]) (rest := []) ⟨hx, hb, hml, hown, hz⟩ (ct_M_within l dC dI ci cj cz p2.toInt64 0 4) (cwS 3 hz (zw_gS zi_279 zi_280 zi_35 zi_281) rfl rfl rfl (by decide +kernel) ⟨Nat.le_of_ble_eq_true rfl, Nat.le_of_ble_eq_true rfl⟩) (zw_preR zw_ns_ok (ws := []) (fun k q h => by simp at h) hK hN) rfl rfl hl.1 rfl (lv_room (Nat.le_of_ble_eq_true rfl)) dz_M_door_17 ⟨Nat.le_of_ble_eq_true rfl, Nat.le_of_ble_eq_true rfl⟩)) (fun r_3 hr_3 => ?_)
    have hr_3 : r_3 = zm_within p2.toInt64 0 4 := hr_3
    subst hr_3
    refine lv_if_eq (tgt := 31) hx hb dz_M_door_20 (by decide) (fun c_4 => ?_) (fun c_4 => ?_)
    · refine lv_bipush (v := -12) hx hb dz_M_door_31 (by decide) ?_
      have hE_5 : zm_door M p1 p2 p3 = ((-12), M) := by simp only [zm_door, if_neg c_2, if_pos c_4]
      exact W.iret (v := (-12)) hx hb hr (fun t ht hW => ⟨⟨_, (), rfl, by show (-12) = (zm_door M p1 p2 p3).1; rw [hE_5], by show va_P (dC, dI) vwCl (zm_W ci cj cz h0 a ((zm_door M p1 p2 p3).2)) t.heap; rw [ht, hE_5]; exact hP, by show va_D A (zm_W ci cj cz h0 a ((zm_door M p1 p2 p3).2)); rw [hE_5]; exact hD⟩, hS.F ht⟩) hS.2.2 dz_M_door_33
    · refine lv_aload_n hx hb dz_M_door_23 rfl (lv_at hl 0 rfl) ?_
      refine lv_lload_n hx hb dz_M_door_24 rfl (lv_at hl 3 rfl) ?_
      refine vp_callSi (va_Run.run (va_runV (As := [.long p3]) (rest := []) ⟨hx, hb, hml, hown, hz⟩ (ct_M_isNoTime l dC dI ci cj cz h0 a M hok p3) (cwV 1 hz (zw_gV zi_300 zi_301 zi_27 zi_35 zi_302) rfl rfl rfl (by decide +kernel) ⟨Nat.le_of_ble_eq_true rfl, Nat.le_of_ble_eq_true rfl⟩) (zw_preRV zw_ns_ok hP hK hN (ci := 3) rfl (k := 0) rfl) rfl rfl hl.1 rfl (lv_room (Nat.le_of_ble_eq_true rfl)) dz_M_door_25 ⟨Nat.le_of_ble_eq_true rfl, Nat.le_of_ble_eq_true rfl⟩)) (fun r_6 hr_6 => ?_)
      have hr_6 : r_6 = zm_isNo M p3 := hr_6
      subst hr_6
      refine lv_if_eq (tgt := 34) hx hb dz_M_door_28 (by decide) (fun c_7 => ?_) (fun c_7 => ?_)
      · refine lv_aload_n hx hb dz_M_door_34 rfl (lv_at hl 0 rfl) ?_
        refine lv_lload_n hx hb dz_M_door_35 rfl (lv_at hl 3 rfl) ?_
        have hFc := zw_free hS hA hD
        refine va_callv (va_runV (As := [.long p3]) (rest := []) ⟨hx, hb, hml, hown, hz⟩ (ct_M_pass l dC dI ci cj cz h0 a M hok s.heap.size p3) (cwV 1 hz (zw_gV zi_303 zi_304 zi_28 zi_35 zi_305) rfl rfl rfl (by decide +kernel) ⟨Nat.le_of_ble_eq_true rfl, Nat.le_of_ble_eq_true rfl⟩) (zw_preUV zw_ns_ok hP hD hK hN (ci := 3) rfl (k := 0) rfl) rfl rfl hl.1 rfl (lv_room (Nat.le_of_ble_eq_true rfl)) dz_M_door_36 ⟨Nat.le_of_ble_eq_true rfl, Nat.le_of_ble_eq_true rfl⟩) hS (fun q _ h => hFc q h) hFc (fun u_8 t_8 H locs ht hvm hw hB hz1 hk1 hS => ?_)
        obtain ⟨hP, hD⟩ := hB
        rw [ht] at hP
        have hD := hD.weaken (fun _ q _ h => hFc q.1 h)
        obtain ⟨S_9, eS_9⟩ : ∃ z, z = (zm_pass M p3) := ⟨_, rfl⟩
        rw [← eS_9] at hP hD
        have hok : zm_ok S_9 := by rw [eS_9]; exact zm_ok_pass hok
        refine lv_aload_n hx hb dz_M_door_39 rfl (lv_at hl 0 rfl) ?_
        refine va_get (D := (dC, dI)) (ci := 3) (v := .ref a.2.1) (C := RzM) (T := TzM) (N := 18) hx hb hz inzM hown hK hP 0 rfl rfl 2 (by decide) (hz _ zi_238) (fun _ h9 => h9) rfl dz_M_door_40 ?_
        refine lv_iload_n hx hb dz_M_door_43 rfl (lv_at hl 1 rfl) ?_
        have hin_10 : vp_in p1 61 := zm_isBox_in hok0 c_2
        refine va_iald hx hb hK hP 2 0 rfl rfl hin_10 dz_M_door_44 ?_
        refine lv_istore (lv' := [(5, .int (zm_dr S_9 p1.toNatClampNeg)), (0, .ref h0), (1, .int p1), (2, .int p2), (3, .long p3)]) hx hb dz_M_door_45 hl (by decide) rfl (fun ls hl => ?_)
        refine lv_iload_n hx hb dz_M_door_47 rfl (lv_at hl 3 rfl) ?_
        refine lv_if_ne (tgt := 64) hx hb dz_M_door_48 (by decide) (fun c_11 => ?_) (fun c_11 => ?_)
        · refine lv_iload_n hx hb dz_M_door_64 rfl (lv_at hl 3 rfl) ?_
          refine lv_iconst (v := 1) hx hb dz_M_door_65 (by decide) ?_
          refine lv_icmp_ne (tgt := 88) hx hb dz_M_door_66 (by decide) (fun c_12 => ?_) (fun c_12 => ?_)
          · refine lv_iload_n hx hb dz_M_door_88 rfl (lv_at hl 3 rfl) ?_
            refine lv_iconst (v := 2) hx hb dz_M_door_89 (by decide) ?_
            refine lv_icmp_ne (tgt := 107) hx hb dz_M_door_90 (by decide) (fun c_13 => ?_) (fun c_13 => ?_)
            · refine lv_iload_n hx hb dz_M_door_107 rfl (lv_at hl 3 rfl) ?_
              refine lv_iconst (v := 3) hx hb dz_M_door_108 (by decide) ?_
              refine lv_icmp_ne (tgt := 145) hx hb dz_M_door_109 (by decide) (fun c_14 => ?_) (fun c_14 => ?_)
              · refine lv_iload hx hb dz_M_door_145 (lv_at hl 0 rfl) ?_
                refine lv_iconst (v := 3) hx hb dz_M_door_147 (by decide) ?_
                refine lv_icmp_ne (tgt := 155) hx hb dz_M_door_148 (by decide) (fun c_15 => ?_) (fun c_15 => ?_)
                · refine lv_iconst (v := 0) hx hb dz_M_door_155 (by decide) ?_
                  refine lv_istore (lv' := [(6, .int 0), (5, .int (zm_dr S_9 p1.toNatClampNeg)), (0, .ref h0), (1, .int p1), (2, .int p2), (3, .long p3)]) hx hb dz_M_door_156 hl (by decide) rfl (fun ls hl => ?_)
                  refine lv_iload hx hb dz_M_door_158 (lv_at hl 0 rfl) ?_
                  refine lv_if_ne (tgt := 166) hx hb dz_M_door_160 (by decide) (fun c_16 => ?_) (fun c_16 => ?_)
                  · exact absurd (by decide) c_16
                  · refine lv_bipush (v := -13) hx hb dz_M_door_163 (by decide) ?_
                    have hE_17 : zm_door M p1 p2 p3 = ((-13), S_9) := by subst eS_9; simp only [zm_door, if_neg c_2, if_neg c_4, if_pos c_7, if_neg c_11, if_neg c_12, if_neg c_13, if_neg c_14, if_neg c_15]
                    exact W.iret (v := (-13)) hx hb hr (fun t ht hW => ⟨⟨_, (), rfl, by show (-13) = (zm_door M p1 p2 p3).1; rw [hE_17], by show va_P (dC, dI) vwCl (zm_W ci cj cz h0 a ((zm_door M p1 p2 p3).2)) t.heap; rw [ht, hE_17]; exact hP, by show va_D A (zm_W ci cj cz h0 a ((zm_door M p1 p2 p3).2)); rw [hE_17]; exact hD⟩, hS.F ht⟩) hS.2.2 dz_M_door_165
                · refine lv_iconst (v := 1) hx hb dz_M_door_151 (by decide) ?_
                  refine lv_goto (tgt := 156) hx hb dz_M_door_152 (by decide) ?_
                  refine lv_istore (lv' := [(6, .int 1), (5, .int (zm_dr S_9 p1.toNatClampNeg)), (0, .ref h0), (1, .int p1), (2, .int p2), (3, .long p3)]) hx hb dz_M_door_156 hl (by decide) rfl (fun ls hl => ?_)
                  refine lv_iload hx hb dz_M_door_158 (lv_at hl 0 rfl) ?_
                  refine lv_if_ne (tgt := 166) hx hb dz_M_door_160 (by decide) (fun c_18 => ?_) (fun c_18 => ?_)
                  · refine lv_iload_n hx hb dz_M_door_166 rfl (lv_at hl 4 rfl) ?_
                    refine lv_iconst (v := 2) hx hb dz_M_door_167 (by decide) ?_
                    refine lv_icmp_ge (tgt := 188) hx hb dz_M_door_168 (by decide) (fun c_19 => ?_) (fun c_19 => ?_)
                    · refine lv_aload_n hx hb dz_M_door_188 rfl (lv_at hl 2 rfl) ?_
                      refine va_get (D := (dC, dI)) (ci := 3) (v := .ref a.2.1) (C := RzM) (T := TzM) (N := 18) hx hb hz inzM hown hK hP 0 rfl rfl 2 (by decide) (hz _ zi_238) (fun _ h9 => h9) rfl dz_M_door_189 ?_
                      refine lv_iload_n hx hb dz_M_door_192 rfl (lv_at hl 3 rfl) ?_
                      refine lv_iload_n hx hb dz_M_door_193 rfl (lv_at hl 4 rfl) ?_
                      refine lv_iconst (v := 3) hx hb dz_M_door_194 (by decide) ?_
                      refine lv_icmp_ne (tgt := 202) hx hb dz_M_door_195 (by decide) (fun c_20 => ?_) (fun c_20 => ?_)
                      · refine lv_iconst (v := 0) hx hb dz_M_door_202 (by decide) ?_
                        have hin_21 : vp_in p1 61 := zm_isBox_in hok0 c_2
                        refine va_iast hx hb hK hP hD hS 2 0 rfl rfl hin_21 dz_M_door_203 (fun H locs hP hD hS => ?_)
                        obtain ⟨S_22, eS_22⟩ : ∃ z, z = zm_sdr S_9 (upd (zm_dr S_9) p1.toNatClampNeg 0) := ⟨_, rfl⟩
                        have hP : va_P (dC, dI) vwCl (zm_W ci cj cz h0 a S_22) H := by rw [eS_22]; exact hP
                        have hD : va_D A (zm_W ci cj cz h0 a S_22) := by rw [eS_22]; exact hD
                        have hok : zm_ok S_22 := by rw [eS_22]; exact hok
                        refine lv_aload_n hx hb dz_M_door_204 rfl (lv_at hl 2 rfl) ?_
                        refine va_get (D := (dC, dI)) (ci := 3) (v := .ref a.2.1) (C := RzM) (T := TzM) (N := 18) hx hb hz inzM hown hK hP 0 rfl rfl 2 (by decide) (hz _ zi_238) (fun _ h9 => h9) rfl dz_M_door_205 ?_
                        refine lv_iload_n hx hb dz_M_door_208 rfl (lv_at hl 3 rfl) ?_
                        have hin_23 : vp_in p1 61 := zm_isBox_in hok0 c_2
                        refine va_iald hx hb hK hP 2 0 rfl rfl hin_23 dz_M_door_209 ?_
                        have hE_24 : zm_door M p1 p2 p3 = (zm_dr S_22 p1.toNatClampNeg, S_22) := by subst eS_9 eS_22; simp only [zm_door, if_neg c_2, if_neg c_4, if_pos c_7, if_neg c_11, if_neg c_12, if_neg c_13, if_neg c_14, if_pos c_15, if_pos c_19]
                        exact W.iret (v := zm_dr S_22 p1.toNatClampNeg) hx hb hr (fun t ht hW => ⟨⟨_, (), rfl, by show zm_dr S_22 p1.toNatClampNeg = (zm_door M p1 p2 p3).1; rw [hE_24], by show va_P (dC, dI) vwCl (zm_W ci cj cz h0 a ((zm_door M p1 p2 p3).2)) t.heap; rw [ht, hE_24]; exact hP, by show va_D A (zm_W ci cj cz h0 a ((zm_door M p1 p2 p3).2)); rw [hE_24]; exact hD⟩, hS.F ht⟩) hS.2.2 dz_M_door_210
                      · exact absurd c_20 c_14
                    · refine lv_aload_n hx hb dz_M_door_171 rfl (lv_at hl 2 rfl) ?_
                      refine lv_iload_n hx hb dz_M_door_172 rfl (lv_at hl 3 rfl) ?_
                      refine lv_iload_n hx hb dz_M_door_173 rfl (lv_at hl 4 rfl) ?_
                      refine lv_if_ne (tgt := 181) hx hb dz_M_door_174 (by decide) (fun c_25 => ?_) (fun c_25 => ?_)
                      · refine lv_iconst (v := 2) hx hb dz_M_door_181 (by decide) ?_
                        have hFc := zw_free hS hA hD
                        refine va_callv (va_runV (As := [.int p1, .int 2]) (rest := []) ⟨hx, hb, hml, hown, hz⟩ (ct_M_open l dC dI ci cj cz h0 a S_9 hok H.size p1 2 (zm_isBox_in hok0 c_2)) (cwV 2 hz (zw_gV zi_322 zi_323 zi_31 zi_35 zi_324) rfl rfl rfl (by decide +kernel) ⟨Nat.le_of_ble_eq_true rfl, Nat.le_of_ble_eq_true rfl⟩) (zw_preUV zw_ns_ok hP hD hK hN (ci := 3) rfl (k := 0) rfl) rfl rfl hl.1 rfl (lv_room (Nat.le_of_ble_eq_true rfl)) dz_M_door_182 ⟨Nat.le_of_ble_eq_true rfl, Nat.le_of_ble_eq_true rfl⟩) hS (fun q _ h => hFc q h) hFc (fun u_26 t_26 H locs ht hvm hw hB hz1 hk1 hS => ?_)
                        obtain ⟨hP, hD⟩ := hB
                        rw [ht] at hP
                        have hD := hD.weaken (fun _ q _ h => hFc q.1 h)
                        obtain ⟨S_27, eS_27⟩ : ∃ z, z = (zm_open S_9 p1 2) := ⟨_, rfl⟩
                        rw [← eS_27] at hP hD
                        have hok : zm_ok S_27 := by rw [eS_27]; exact zm_ok_open hok
                        refine lv_goto (tgt := 204) hx hb dz_M_door_185 (by decide) ?_
                        refine lv_aload_n hx hb dz_M_door_204 rfl (lv_at hl 2 rfl) ?_
                        refine va_get (D := (dC, dI)) (ci := 3) (v := .ref a.2.1) (C := RzM) (T := TzM) (N := 18) hx hb hz inzM hown hK hP 0 rfl rfl 2 (by decide) (hz _ zi_238) (fun _ h9 => h9) rfl dz_M_door_205 ?_
                        refine lv_iload_n hx hb dz_M_door_208 rfl (lv_at hl 3 rfl) ?_
                        have hin_28 : vp_in p1 61 := zm_isBox_in hok0 c_2
                        refine va_iald hx hb hK hP 2 0 rfl rfl hin_28 dz_M_door_209 ?_
                        have hE_29 : zm_door M p1 p2 p3 = (zm_dr S_27 p1.toNatClampNeg, S_27) := by subst eS_9 eS_27; simp only [zm_door, if_neg c_2, if_neg c_4, if_pos c_7, if_neg c_11, if_neg c_12, if_neg c_13, if_neg c_14, if_pos c_15, if_neg c_19]
                        exact W.iret (v := zm_dr S_27 p1.toNatClampNeg) hx hb hr (fun t ht hW => ⟨⟨_, (), rfl, by show zm_dr S_27 p1.toNatClampNeg = (zm_door M p1 p2 p3).1; rw [hE_29], by show va_P (dC, dI) vwCl (zm_W ci cj cz h0 a ((zm_door M p1 p2 p3).2)) t.heap; rw [ht, hE_29]; exact hP, by show va_D A (zm_W ci cj cz h0 a ((zm_door M p1 p2 p3).2)); rw [hE_29]; exact hD⟩, hS.F ht⟩) hS.2.2 dz_M_door_210
                      · exact absurd c_25 c_11
                  · exact absurd c_18 (by decide)
              · refine lv_iload hx hb dz_M_door_112 (lv_at hl 0 rfl) ?_
                refine lv_if_ne (tgt := 141) hx hb dz_M_door_114 (by decide) (fun c_30 => ?_) (fun c_30 => ?_)
                · refine lv_iconst (v := 0) hx hb dz_M_door_141 (by decide) ?_
                  refine lv_goto (tgt := 156) hx hb dz_M_door_142 (by decide) ?_
                  refine lv_istore (lv' := [(6, .int 0), (5, .int (zm_dr S_9 p1.toNatClampNeg)), (0, .ref h0), (1, .int p1), (2, .int p2), (3, .long p3)]) hx hb dz_M_door_156 hl (by decide) rfl (fun ls hl => ?_)
                  refine lv_iload hx hb dz_M_door_158 (lv_at hl 0 rfl) ?_
                  refine lv_if_ne (tgt := 166) hx hb dz_M_door_160 (by decide) (fun c_31 => ?_) (fun c_31 => ?_)
                  · exact absurd (by decide) c_31
                  · refine lv_bipush (v := -13) hx hb dz_M_door_163 (by decide) ?_
                    have hE_32 : zm_door M p1 p2 p3 = ((-13), S_9) := by subst eS_9; simp only [zm_door, if_neg c_2, if_neg c_4, if_pos c_7, if_neg c_11, if_neg c_12, if_neg c_13, if_pos c_14, if_neg c_30]
                    exact W.iret (v := (-13)) hx hb hr (fun t ht hW => ⟨⟨_, (), rfl, by show (-13) = (zm_door M p1 p2 p3).1; rw [hE_32], by show va_P (dC, dI) vwCl (zm_W ci cj cz h0 a ((zm_door M p1 p2 p3).2)) t.heap; rw [ht, hE_32]; exact hP, by show va_D A (zm_W ci cj cz h0 a ((zm_door M p1 p2 p3).2)); rw [hE_32]; exact hD⟩, hS.F ht⟩) hS.2.2 dz_M_door_165
                · refine lv_aload_n hx hb dz_M_door_117 rfl (lv_at hl 1 rfl) ?_
                  refine va_get (D := (dC, dI)) (ci := 3) (v := .ref a.2.2.2.2.1) (C := RzM) (T := TzM) (N := 18) hx hb hz inzM hown hK hP 0 rfl rfl 5 (by decide) (hz _ zi_241) (fun _ h9 => h9) rfl dz_M_door_118 ?_
                  refine lv_iload_n hx hb dz_M_door_121 rfl (lv_at hl 2 rfl) ?_
                  have hin_33 : vp_in p1 61 := zm_isBox_in hok0 c_2
                  refine va_iald hx hb hK hP 5 0 rfl rfl hin_33 dz_M_door_122 ?_
                  refine lv_if_ne (tgt := 141) hx hb dz_M_door_123 (by decide) (fun c_34 => ?_) (fun c_34 => ?_)
                  · refine lv_iconst (v := 0) hx hb dz_M_door_141 (by decide) ?_
                    refine lv_goto (tgt := 156) hx hb dz_M_door_142 (by decide) ?_
                    refine lv_istore (lv' := [(6, .int 0), (5, .int (zm_dr S_9 p1.toNatClampNeg)), (0, .ref h0), (1, .int p1), (2, .int p2), (3, .long p3)]) hx hb dz_M_door_156 hl (by decide) rfl (fun ls hl => ?_)
                    refine lv_iload hx hb dz_M_door_158 (lv_at hl 0 rfl) ?_
                    refine lv_if_ne (tgt := 166) hx hb dz_M_door_160 (by decide) (fun c_35 => ?_) (fun c_35 => ?_)
                    · exact absurd (by decide) c_35
                    · refine lv_bipush (v := -13) hx hb dz_M_door_163 (by decide) ?_
                      have hE_36 : zm_door M p1 p2 p3 = ((-13), S_9) := by subst eS_9; simp only [zm_door, if_neg c_2, if_neg c_4, if_pos c_7, if_neg c_11, if_neg c_12, if_neg c_13, if_pos c_14, if_pos c_30, if_neg c_34]
                      exact W.iret (v := (-13)) hx hb hr (fun t ht hW => ⟨⟨_, (), rfl, by show (-13) = (zm_door M p1 p2 p3).1; rw [hE_36], by show va_P (dC, dI) vwCl (zm_W ci cj cz h0 a ((zm_door M p1 p2 p3).2)) t.heap; rw [ht, hE_36]; exact hP, by show va_D A (zm_W ci cj cz h0 a ((zm_door M p1 p2 p3).2)); rw [hE_36]; exact hD⟩, hS.F ht⟩) hS.2.2 dz_M_door_165
                  · refine lv_aload_n hx hb dz_M_door_126 rfl (lv_at hl 1 rfl) ?_
                    refine va_get (D := (dC, dI)) (ci := 3) (v := .ref a.2.2.2.2.2.2.2.2.1) (C := RzM) (T := TzM) (N := 18) hx hb hz inzM hown hK hP 0 rfl rfl 9 (by decide) (hz _ zi_245) (fun _ h9 => h9) rfl dz_M_door_127 ?_
                    refine lv_iload_n hx hb dz_M_door_130 rfl (lv_at hl 2 rfl) ?_
                    have hin_37 : vp_in p1 61 := zm_isBox_in hok0 c_2
                    refine va_lald hx hb hK hP 9 1 rfl rfl hin_37 dz_M_door_131 ?_
                    refine lv_lconst (v := 0) hx hb dz_M_door_132 (by decide) ?_
                    refine W.lcmp hx hb dz_M_door_133 ?_
                    refine lv_if_ne (tgt := 141) hx hb dz_M_door_134 (by decide) (fun c_38 => ?_) (fun c_38 => ?_)
                    · refine lv_iconst (v := 0) hx hb dz_M_door_141 (by decide) ?_
                      refine lv_goto (tgt := 156) hx hb dz_M_door_142 (by decide) ?_
                      refine lv_istore (lv' := [(6, .int 0), (5, .int (zm_dr S_9 p1.toNatClampNeg)), (0, .ref h0), (1, .int p1), (2, .int p2), (3, .long p3)]) hx hb dz_M_door_156 hl (by decide) rfl (fun ls hl => ?_)
                      refine lv_iload hx hb dz_M_door_158 (lv_at hl 0 rfl) ?_
                      refine lv_if_ne (tgt := 166) hx hb dz_M_door_160 (by decide) (fun c_39 => ?_) (fun c_39 => ?_)
                      · exact absurd (by decide) c_39
                      · refine lv_bipush (v := -13) hx hb dz_M_door_163 (by decide) ?_
                        have hE_40 : zm_door M p1 p2 p3 = ((-13), S_9) := by subst eS_9; simp only [zm_door, if_neg c_2, if_neg c_4, if_pos c_7, if_neg c_11, if_neg c_12, if_neg c_13, if_pos c_14, if_pos c_30, if_pos c_34, if_neg c_38]
                        exact W.iret (v := (-13)) hx hb hr (fun t ht hW => ⟨⟨_, (), rfl, by show (-13) = (zm_door M p1 p2 p3).1; rw [hE_40], by show va_P (dC, dI) vwCl (zm_W ci cj cz h0 a ((zm_door M p1 p2 p3).2)) t.heap; rw [ht, hE_40]; exact hP, by show va_D A (zm_W ci cj cz h0 a ((zm_door M p1 p2 p3).2)); rw [hE_40]; exact hD⟩, hS.F ht⟩) hS.2.2 dz_M_door_165
                    · refine lv_iconst (v := 1) hx hb dz_M_door_137 (by decide) ?_
                      refine lv_goto (tgt := 156) hx hb dz_M_door_138 (by decide) ?_
                      refine lv_istore (lv' := [(6, .int 1), (5, .int (zm_dr S_9 p1.toNatClampNeg)), (0, .ref h0), (1, .int p1), (2, .int p2), (3, .long p3)]) hx hb dz_M_door_156 hl (by decide) rfl (fun ls hl => ?_)
                      refine lv_iload hx hb dz_M_door_158 (lv_at hl 0 rfl) ?_
                      refine lv_if_ne (tgt := 166) hx hb dz_M_door_160 (by decide) (fun c_41 => ?_) (fun c_41 => ?_)
                      · refine lv_iload_n hx hb dz_M_door_166 rfl (lv_at hl 4 rfl) ?_
                        refine lv_iconst (v := 2) hx hb dz_M_door_167 (by decide) ?_
                        refine lv_icmp_ge (tgt := 188) hx hb dz_M_door_168 (by decide) (fun c_42 => ?_) (fun c_42 => ?_)
                        · refine lv_aload_n hx hb dz_M_door_188 rfl (lv_at hl 2 rfl) ?_
                          refine va_get (D := (dC, dI)) (ci := 3) (v := .ref a.2.1) (C := RzM) (T := TzM) (N := 18) hx hb hz inzM hown hK hP 0 rfl rfl 2 (by decide) (hz _ zi_238) (fun _ h9 => h9) rfl dz_M_door_189 ?_
                          refine lv_iload_n hx hb dz_M_door_192 rfl (lv_at hl 3 rfl) ?_
                          refine lv_iload_n hx hb dz_M_door_193 rfl (lv_at hl 4 rfl) ?_
                          refine lv_iconst (v := 3) hx hb dz_M_door_194 (by decide) ?_
                          refine lv_icmp_ne (tgt := 202) hx hb dz_M_door_195 (by decide) (fun c_43 => ?_) (fun c_43 => ?_)
                          · exact absurd c_14 c_43
                          · refine lv_iconst (v := 3) hx hb dz_M_door_198 (by decide) ?_
                            refine lv_goto (tgt := 203) hx hb dz_M_door_199 (by decide) ?_
                            have hin_44 : vp_in p1 61 := zm_isBox_in hok0 c_2
                            refine va_iast hx hb hK hP hD hS 2 0 rfl rfl hin_44 dz_M_door_203 (fun H locs hP hD hS => ?_)
                            obtain ⟨S_45, eS_45⟩ : ∃ z, z = zm_sdr S_9 (upd (zm_dr S_9) p1.toNatClampNeg 3) := ⟨_, rfl⟩
                            have hP : va_P (dC, dI) vwCl (zm_W ci cj cz h0 a S_45) H := by rw [eS_45]; exact hP
                            have hD : va_D A (zm_W ci cj cz h0 a S_45) := by rw [eS_45]; exact hD
                            have hok : zm_ok S_45 := by rw [eS_45]; exact hok
                            refine lv_aload_n hx hb dz_M_door_204 rfl (lv_at hl 2 rfl) ?_
                            refine va_get (D := (dC, dI)) (ci := 3) (v := .ref a.2.1) (C := RzM) (T := TzM) (N := 18) hx hb hz inzM hown hK hP 0 rfl rfl 2 (by decide) (hz _ zi_238) (fun _ h9 => h9) rfl dz_M_door_205 ?_
                            refine lv_iload_n hx hb dz_M_door_208 rfl (lv_at hl 3 rfl) ?_
                            have hin_46 : vp_in p1 61 := zm_isBox_in hok0 c_2
                            refine va_iald hx hb hK hP 2 0 rfl rfl hin_46 dz_M_door_209 ?_
                            have hE_47 : zm_door M p1 p2 p3 = (zm_dr S_45 p1.toNatClampNeg, S_45) := by subst eS_9 eS_45; simp only [zm_door, if_neg c_2, if_neg c_4, if_pos c_7, if_neg c_11, if_neg c_12, if_neg c_13, if_pos c_14, if_pos c_30, if_pos c_34, if_pos c_38, if_pos c_42]
                            exact W.iret (v := zm_dr S_45 p1.toNatClampNeg) hx hb hr (fun t ht hW => ⟨⟨_, (), rfl, by show zm_dr S_45 p1.toNatClampNeg = (zm_door M p1 p2 p3).1; rw [hE_47], by show va_P (dC, dI) vwCl (zm_W ci cj cz h0 a ((zm_door M p1 p2 p3).2)) t.heap; rw [ht, hE_47]; exact hP, by show va_D A (zm_W ci cj cz h0 a ((zm_door M p1 p2 p3).2)); rw [hE_47]; exact hD⟩, hS.F ht⟩) hS.2.2 dz_M_door_210
                        · refine lv_aload_n hx hb dz_M_door_171 rfl (lv_at hl 2 rfl) ?_
                          refine lv_iload_n hx hb dz_M_door_172 rfl (lv_at hl 3 rfl) ?_
                          refine lv_iload_n hx hb dz_M_door_173 rfl (lv_at hl 4 rfl) ?_
                          refine lv_if_ne (tgt := 181) hx hb dz_M_door_174 (by decide) (fun c_48 => ?_) (fun c_48 => ?_)
                          · refine lv_iconst (v := 2) hx hb dz_M_door_181 (by decide) ?_
                            have hFc := zw_free hS hA hD
                            refine va_callv (va_runV (As := [.int p1, .int 2]) (rest := []) ⟨hx, hb, hml, hown, hz⟩ (ct_M_open l dC dI ci cj cz h0 a S_9 hok H.size p1 2 (zm_isBox_in hok0 c_2)) (cwV 2 hz (zw_gV zi_322 zi_323 zi_31 zi_35 zi_324) rfl rfl rfl (by decide +kernel) ⟨Nat.le_of_ble_eq_true rfl, Nat.le_of_ble_eq_true rfl⟩) (zw_preUV zw_ns_ok hP hD hK hN (ci := 3) rfl (k := 0) rfl) rfl rfl hl.1 rfl (lv_room (Nat.le_of_ble_eq_true rfl)) dz_M_door_182 ⟨Nat.le_of_ble_eq_true rfl, Nat.le_of_ble_eq_true rfl⟩) hS (fun q _ h => hFc q h) hFc (fun u_49 t_49 H locs ht hvm hw hB hz1 hk1 hS => ?_)
                            obtain ⟨hP, hD⟩ := hB
                            rw [ht] at hP
                            have hD := hD.weaken (fun _ q _ h => hFc q.1 h)
                            obtain ⟨S_50, eS_50⟩ : ∃ z, z = (zm_open S_9 p1 2) := ⟨_, rfl⟩
                            rw [← eS_50] at hP hD
                            have hok : zm_ok S_50 := by rw [eS_50]; exact zm_ok_open hok
                            refine lv_goto (tgt := 204) hx hb dz_M_door_185 (by decide) ?_
                            refine lv_aload_n hx hb dz_M_door_204 rfl (lv_at hl 2 rfl) ?_
                            refine va_get (D := (dC, dI)) (ci := 3) (v := .ref a.2.1) (C := RzM) (T := TzM) (N := 18) hx hb hz inzM hown hK hP 0 rfl rfl 2 (by decide) (hz _ zi_238) (fun _ h9 => h9) rfl dz_M_door_205 ?_
                            refine lv_iload_n hx hb dz_M_door_208 rfl (lv_at hl 3 rfl) ?_
                            have hin_51 : vp_in p1 61 := zm_isBox_in hok0 c_2
                            refine va_iald hx hb hK hP 2 0 rfl rfl hin_51 dz_M_door_209 ?_
                            have hE_52 : zm_door M p1 p2 p3 = (zm_dr S_50 p1.toNatClampNeg, S_50) := by subst eS_9 eS_50; simp only [zm_door, if_neg c_2, if_neg c_4, if_pos c_7, if_neg c_11, if_neg c_12, if_neg c_13, if_pos c_14, if_pos c_30, if_pos c_34, if_pos c_38, if_neg c_42]
                            exact W.iret (v := zm_dr S_50 p1.toNatClampNeg) hx hb hr (fun t ht hW => ⟨⟨_, (), rfl, by show zm_dr S_50 p1.toNatClampNeg = (zm_door M p1 p2 p3).1; rw [hE_52], by show va_P (dC, dI) vwCl (zm_W ci cj cz h0 a ((zm_door M p1 p2 p3).2)) t.heap; rw [ht, hE_52]; exact hP, by show va_D A (zm_W ci cj cz h0 a ((zm_door M p1 p2 p3).2)); rw [hE_52]; exact hD⟩, hS.F ht⟩) hS.2.2 dz_M_door_210
                          · exact absurd c_48 c_11
                      · exact absurd c_41 (by decide)
            · refine lv_iload hx hb dz_M_door_93 (lv_at hl 0 rfl) ?_
              refine lv_iconst (v := 2) hx hb dz_M_door_95 (by decide) ?_
              refine lv_icmp_ne (tgt := 103) hx hb dz_M_door_96 (by decide) (fun c_53 => ?_) (fun c_53 => ?_)
              · refine lv_iconst (v := 0) hx hb dz_M_door_103 (by decide) ?_
                refine lv_goto (tgt := 156) hx hb dz_M_door_104 (by decide) ?_
                refine lv_istore (lv' := [(6, .int 0), (5, .int (zm_dr S_9 p1.toNatClampNeg)), (0, .ref h0), (1, .int p1), (2, .int p2), (3, .long p3)]) hx hb dz_M_door_156 hl (by decide) rfl (fun ls hl => ?_)
                refine lv_iload hx hb dz_M_door_158 (lv_at hl 0 rfl) ?_
                refine lv_if_ne (tgt := 166) hx hb dz_M_door_160 (by decide) (fun c_54 => ?_) (fun c_54 => ?_)
                · exact absurd (by decide) c_54
                · refine lv_bipush (v := -13) hx hb dz_M_door_163 (by decide) ?_
                  have hE_55 : zm_door M p1 p2 p3 = ((-13), S_9) := by subst eS_9; simp only [zm_door, if_neg c_2, if_neg c_4, if_pos c_7, if_neg c_11, if_neg c_12, if_pos c_13, if_neg c_53]
                  exact W.iret (v := (-13)) hx hb hr (fun t ht hW => ⟨⟨_, (), rfl, by show (-13) = (zm_door M p1 p2 p3).1; rw [hE_55], by show va_P (dC, dI) vwCl (zm_W ci cj cz h0 a ((zm_door M p1 p2 p3).2)) t.heap; rw [ht, hE_55]; exact hP, by show va_D A (zm_W ci cj cz h0 a ((zm_door M p1 p2 p3).2)); rw [hE_55]; exact hD⟩, hS.F ht⟩) hS.2.2 dz_M_door_165
              · refine lv_iconst (v := 1) hx hb dz_M_door_99 (by decide) ?_
                refine lv_goto (tgt := 156) hx hb dz_M_door_100 (by decide) ?_
                refine lv_istore (lv' := [(6, .int 1), (5, .int (zm_dr S_9 p1.toNatClampNeg)), (0, .ref h0), (1, .int p1), (2, .int p2), (3, .long p3)]) hx hb dz_M_door_156 hl (by decide) rfl (fun ls hl => ?_)
                refine lv_iload hx hb dz_M_door_158 (lv_at hl 0 rfl) ?_
                refine lv_if_ne (tgt := 166) hx hb dz_M_door_160 (by decide) (fun c_56 => ?_) (fun c_56 => ?_)
                · refine lv_iload_n hx hb dz_M_door_166 rfl (lv_at hl 4 rfl) ?_
                  refine lv_iconst (v := 2) hx hb dz_M_door_167 (by decide) ?_
                  refine lv_icmp_ge (tgt := 188) hx hb dz_M_door_168 (by decide) (fun c_57 => ?_) (fun c_57 => ?_)
                  · refine lv_aload_n hx hb dz_M_door_188 rfl (lv_at hl 2 rfl) ?_
                    refine va_get (D := (dC, dI)) (ci := 3) (v := .ref a.2.1) (C := RzM) (T := TzM) (N := 18) hx hb hz inzM hown hK hP 0 rfl rfl 2 (by decide) (hz _ zi_238) (fun _ h9 => h9) rfl dz_M_door_189 ?_
                    refine lv_iload_n hx hb dz_M_door_192 rfl (lv_at hl 3 rfl) ?_
                    refine lv_iload_n hx hb dz_M_door_193 rfl (lv_at hl 4 rfl) ?_
                    refine lv_iconst (v := 3) hx hb dz_M_door_194 (by decide) ?_
                    refine lv_icmp_ne (tgt := 202) hx hb dz_M_door_195 (by decide) (fun c_58 => ?_) (fun c_58 => ?_)
                    · refine lv_iconst (v := 0) hx hb dz_M_door_202 (by decide) ?_
                      have hin_59 : vp_in p1 61 := zm_isBox_in hok0 c_2
                      refine va_iast hx hb hK hP hD hS 2 0 rfl rfl hin_59 dz_M_door_203 (fun H locs hP hD hS => ?_)
                      obtain ⟨S_60, eS_60⟩ : ∃ z, z = zm_sdr S_9 (upd (zm_dr S_9) p1.toNatClampNeg 0) := ⟨_, rfl⟩
                      have hP : va_P (dC, dI) vwCl (zm_W ci cj cz h0 a S_60) H := by rw [eS_60]; exact hP
                      have hD : va_D A (zm_W ci cj cz h0 a S_60) := by rw [eS_60]; exact hD
                      have hok : zm_ok S_60 := by rw [eS_60]; exact hok
                      refine lv_aload_n hx hb dz_M_door_204 rfl (lv_at hl 2 rfl) ?_
                      refine va_get (D := (dC, dI)) (ci := 3) (v := .ref a.2.1) (C := RzM) (T := TzM) (N := 18) hx hb hz inzM hown hK hP 0 rfl rfl 2 (by decide) (hz _ zi_238) (fun _ h9 => h9) rfl dz_M_door_205 ?_
                      refine lv_iload_n hx hb dz_M_door_208 rfl (lv_at hl 3 rfl) ?_
                      have hin_61 : vp_in p1 61 := zm_isBox_in hok0 c_2
                      refine va_iald hx hb hK hP 2 0 rfl rfl hin_61 dz_M_door_209 ?_
                      have hE_62 : zm_door M p1 p2 p3 = (zm_dr S_60 p1.toNatClampNeg, S_60) := by subst eS_9 eS_60; simp only [zm_door, if_neg c_2, if_neg c_4, if_pos c_7, if_neg c_11, if_neg c_12, if_pos c_13, if_pos c_53, if_pos c_57, if_neg c_58]
                      exact W.iret (v := zm_dr S_60 p1.toNatClampNeg) hx hb hr (fun t ht hW => ⟨⟨_, (), rfl, by show zm_dr S_60 p1.toNatClampNeg = (zm_door M p1 p2 p3).1; rw [hE_62], by show va_P (dC, dI) vwCl (zm_W ci cj cz h0 a ((zm_door M p1 p2 p3).2)) t.heap; rw [ht, hE_62]; exact hP, by show va_D A (zm_W ci cj cz h0 a ((zm_door M p1 p2 p3).2)); rw [hE_62]; exact hD⟩, hS.F ht⟩) hS.2.2 dz_M_door_210
                    · refine lv_iconst (v := 3) hx hb dz_M_door_198 (by decide) ?_
                      refine lv_goto (tgt := 203) hx hb dz_M_door_199 (by decide) ?_
                      have hin_63 : vp_in p1 61 := zm_isBox_in hok0 c_2
                      refine va_iast hx hb hK hP hD hS 2 0 rfl rfl hin_63 dz_M_door_203 (fun H locs hP hD hS => ?_)
                      obtain ⟨S_64, eS_64⟩ : ∃ z, z = zm_sdr S_9 (upd (zm_dr S_9) p1.toNatClampNeg 3) := ⟨_, rfl⟩
                      have hP : va_P (dC, dI) vwCl (zm_W ci cj cz h0 a S_64) H := by rw [eS_64]; exact hP
                      have hD : va_D A (zm_W ci cj cz h0 a S_64) := by rw [eS_64]; exact hD
                      have hok : zm_ok S_64 := by rw [eS_64]; exact hok
                      refine lv_aload_n hx hb dz_M_door_204 rfl (lv_at hl 2 rfl) ?_
                      refine va_get (D := (dC, dI)) (ci := 3) (v := .ref a.2.1) (C := RzM) (T := TzM) (N := 18) hx hb hz inzM hown hK hP 0 rfl rfl 2 (by decide) (hz _ zi_238) (fun _ h9 => h9) rfl dz_M_door_205 ?_
                      refine lv_iload_n hx hb dz_M_door_208 rfl (lv_at hl 3 rfl) ?_
                      have hin_65 : vp_in p1 61 := zm_isBox_in hok0 c_2
                      refine va_iald hx hb hK hP 2 0 rfl rfl hin_65 dz_M_door_209 ?_
                      have hE_66 : zm_door M p1 p2 p3 = (zm_dr S_64 p1.toNatClampNeg, S_64) := by subst eS_9 eS_64; simp only [zm_door, if_neg c_2, if_neg c_4, if_pos c_7, if_neg c_11, if_neg c_12, if_pos c_13, if_pos c_53, if_pos c_57, if_pos c_58]
                      exact W.iret (v := zm_dr S_64 p1.toNatClampNeg) hx hb hr (fun t ht hW => ⟨⟨_, (), rfl, by show zm_dr S_64 p1.toNatClampNeg = (zm_door M p1 p2 p3).1; rw [hE_66], by show va_P (dC, dI) vwCl (zm_W ci cj cz h0 a ((zm_door M p1 p2 p3).2)) t.heap; rw [ht, hE_66]; exact hP, by show va_D A (zm_W ci cj cz h0 a ((zm_door M p1 p2 p3).2)); rw [hE_66]; exact hD⟩, hS.F ht⟩) hS.2.2 dz_M_door_210
                  · refine lv_aload_n hx hb dz_M_door_171 rfl (lv_at hl 2 rfl) ?_
                    refine lv_iload_n hx hb dz_M_door_172 rfl (lv_at hl 3 rfl) ?_
                    refine lv_iload_n hx hb dz_M_door_173 rfl (lv_at hl 4 rfl) ?_
                    refine lv_if_ne (tgt := 181) hx hb dz_M_door_174 (by decide) (fun c_67 => ?_) (fun c_67 => ?_)
                    · refine lv_iconst (v := 2) hx hb dz_M_door_181 (by decide) ?_
                      have hFc := zw_free hS hA hD
                      refine va_callv (va_runV (As := [.int p1, .int 2]) (rest := []) ⟨hx, hb, hml, hown, hz⟩ (ct_M_open l dC dI ci cj cz h0 a S_9 hok H.size p1 2 (zm_isBox_in hok0 c_2)) (cwV 2 hz (zw_gV zi_322 zi_323 zi_31 zi_35 zi_324) rfl rfl rfl (by decide +kernel) ⟨Nat.le_of_ble_eq_true rfl, Nat.le_of_ble_eq_true rfl⟩) (zw_preUV zw_ns_ok hP hD hK hN (ci := 3) rfl (k := 0) rfl) rfl rfl hl.1 rfl (lv_room (Nat.le_of_ble_eq_true rfl)) dz_M_door_182 ⟨Nat.le_of_ble_eq_true rfl, Nat.le_of_ble_eq_true rfl⟩) hS (fun q _ h => hFc q h) hFc (fun u_68 t_68 H locs ht hvm hw hB hz1 hk1 hS => ?_)
                      obtain ⟨hP, hD⟩ := hB
                      rw [ht] at hP
                      have hD := hD.weaken (fun _ q _ h => hFc q.1 h)
                      obtain ⟨S_69, eS_69⟩ : ∃ z, z = (zm_open S_9 p1 2) := ⟨_, rfl⟩
                      rw [← eS_69] at hP hD
                      have hok : zm_ok S_69 := by rw [eS_69]; exact zm_ok_open hok
                      refine lv_goto (tgt := 204) hx hb dz_M_door_185 (by decide) ?_
                      refine lv_aload_n hx hb dz_M_door_204 rfl (lv_at hl 2 rfl) ?_
                      refine va_get (D := (dC, dI)) (ci := 3) (v := .ref a.2.1) (C := RzM) (T := TzM) (N := 18) hx hb hz inzM hown hK hP 0 rfl rfl 2 (by decide) (hz _ zi_238) (fun _ h9 => h9) rfl dz_M_door_205 ?_
                      refine lv_iload_n hx hb dz_M_door_208 rfl (lv_at hl 3 rfl) ?_
                      have hin_70 : vp_in p1 61 := zm_isBox_in hok0 c_2
                      refine va_iald hx hb hK hP 2 0 rfl rfl hin_70 dz_M_door_209 ?_
                      have hE_71 : zm_door M p1 p2 p3 = (zm_dr S_69 p1.toNatClampNeg, S_69) := by subst eS_9 eS_69; simp only [zm_door, if_neg c_2, if_neg c_4, if_pos c_7, if_neg c_11, if_neg c_12, if_pos c_13, if_pos c_53, if_neg c_57]
                      exact W.iret (v := zm_dr S_69 p1.toNatClampNeg) hx hb hr (fun t ht hW => ⟨⟨_, (), rfl, by show zm_dr S_69 p1.toNatClampNeg = (zm_door M p1 p2 p3).1; rw [hE_71], by show va_P (dC, dI) vwCl (zm_W ci cj cz h0 a ((zm_door M p1 p2 p3).2)) t.heap; rw [ht, hE_71]; exact hP, by show va_D A (zm_W ci cj cz h0 a ((zm_door M p1 p2 p3).2)); rw [hE_71]; exact hD⟩, hS.F ht⟩) hS.2.2 dz_M_door_210
                    · exact absurd c_67 c_11
                · exact absurd c_56 (by decide)
          · refine lv_iload hx hb dz_M_door_69 (lv_at hl 0 rfl) ?_
            refine lv_if_eq (tgt := 80) hx hb dz_M_door_71 (by decide) (fun c_72 => ?_) (fun c_72 => ?_)
            · refine lv_iconst (v := 1) hx hb dz_M_door_80 (by decide) ?_
              refine lv_goto (tgt := 156) hx hb dz_M_door_81 (by decide) ?_
              refine lv_istore (lv' := [(6, .int 1), (5, .int (zm_dr S_9 p1.toNatClampNeg)), (0, .ref h0), (1, .int p1), (2, .int p2), (3, .long p3)]) hx hb dz_M_door_156 hl (by decide) rfl (fun ls hl => ?_)
              refine lv_iload hx hb dz_M_door_158 (lv_at hl 0 rfl) ?_
              refine lv_if_ne (tgt := 166) hx hb dz_M_door_160 (by decide) (fun c_73 => ?_) (fun c_73 => ?_)
              · refine lv_iload_n hx hb dz_M_door_166 rfl (lv_at hl 4 rfl) ?_
                refine lv_iconst (v := 2) hx hb dz_M_door_167 (by decide) ?_
                refine lv_icmp_ge (tgt := 188) hx hb dz_M_door_168 (by decide) (fun c_74 => ?_) (fun c_74 => ?_)
                · refine lv_aload_n hx hb dz_M_door_188 rfl (lv_at hl 2 rfl) ?_
                  refine va_get (D := (dC, dI)) (ci := 3) (v := .ref a.2.1) (C := RzM) (T := TzM) (N := 18) hx hb hz inzM hown hK hP 0 rfl rfl 2 (by decide) (hz _ zi_238) (fun _ h9 => h9) rfl dz_M_door_189 ?_
                  refine lv_iload_n hx hb dz_M_door_192 rfl (lv_at hl 3 rfl) ?_
                  refine lv_iload_n hx hb dz_M_door_193 rfl (lv_at hl 4 rfl) ?_
                  refine lv_iconst (v := 3) hx hb dz_M_door_194 (by decide) ?_
                  refine lv_icmp_ne (tgt := 202) hx hb dz_M_door_195 (by decide) (fun c_75 => ?_) (fun c_75 => ?_)
                  · refine lv_iconst (v := 0) hx hb dz_M_door_202 (by decide) ?_
                    have hin_76 : vp_in p1 61 := zm_isBox_in hok0 c_2
                    refine va_iast hx hb hK hP hD hS 2 0 rfl rfl hin_76 dz_M_door_203 (fun H locs hP hD hS => ?_)
                    obtain ⟨S_77, eS_77⟩ : ∃ z, z = zm_sdr S_9 (upd (zm_dr S_9) p1.toNatClampNeg 0) := ⟨_, rfl⟩
                    have hP : va_P (dC, dI) vwCl (zm_W ci cj cz h0 a S_77) H := by rw [eS_77]; exact hP
                    have hD : va_D A (zm_W ci cj cz h0 a S_77) := by rw [eS_77]; exact hD
                    have hok : zm_ok S_77 := by rw [eS_77]; exact hok
                    refine lv_aload_n hx hb dz_M_door_204 rfl (lv_at hl 2 rfl) ?_
                    refine va_get (D := (dC, dI)) (ci := 3) (v := .ref a.2.1) (C := RzM) (T := TzM) (N := 18) hx hb hz inzM hown hK hP 0 rfl rfl 2 (by decide) (hz _ zi_238) (fun _ h9 => h9) rfl dz_M_door_205 ?_
                    refine lv_iload_n hx hb dz_M_door_208 rfl (lv_at hl 3 rfl) ?_
                    have hin_78 : vp_in p1 61 := zm_isBox_in hok0 c_2
                    refine va_iald hx hb hK hP 2 0 rfl rfl hin_78 dz_M_door_209 ?_
                    have hE_79 : zm_door M p1 p2 p3 = (zm_dr S_77 p1.toNatClampNeg, S_77) := by subst eS_9 eS_77; simp only [zm_door, if_neg c_2, if_neg c_4, if_pos c_7, if_neg c_11, if_pos c_12, if_pos c_72, if_pos c_74, if_neg c_75]
                    exact W.iret (v := zm_dr S_77 p1.toNatClampNeg) hx hb hr (fun t ht hW => ⟨⟨_, (), rfl, by show zm_dr S_77 p1.toNatClampNeg = (zm_door M p1 p2 p3).1; rw [hE_79], by show va_P (dC, dI) vwCl (zm_W ci cj cz h0 a ((zm_door M p1 p2 p3).2)) t.heap; rw [ht, hE_79]; exact hP, by show va_D A (zm_W ci cj cz h0 a ((zm_door M p1 p2 p3).2)); rw [hE_79]; exact hD⟩, hS.F ht⟩) hS.2.2 dz_M_door_210
                  · refine lv_iconst (v := 3) hx hb dz_M_door_198 (by decide) ?_
                    refine lv_goto (tgt := 203) hx hb dz_M_door_199 (by decide) ?_
                    have hin_80 : vp_in p1 61 := zm_isBox_in hok0 c_2
                    refine va_iast hx hb hK hP hD hS 2 0 rfl rfl hin_80 dz_M_door_203 (fun H locs hP hD hS => ?_)
                    obtain ⟨S_81, eS_81⟩ : ∃ z, z = zm_sdr S_9 (upd (zm_dr S_9) p1.toNatClampNeg 3) := ⟨_, rfl⟩
                    have hP : va_P (dC, dI) vwCl (zm_W ci cj cz h0 a S_81) H := by rw [eS_81]; exact hP
                    have hD : va_D A (zm_W ci cj cz h0 a S_81) := by rw [eS_81]; exact hD
                    have hok : zm_ok S_81 := by rw [eS_81]; exact hok
                    refine lv_aload_n hx hb dz_M_door_204 rfl (lv_at hl 2 rfl) ?_
                    refine va_get (D := (dC, dI)) (ci := 3) (v := .ref a.2.1) (C := RzM) (T := TzM) (N := 18) hx hb hz inzM hown hK hP 0 rfl rfl 2 (by decide) (hz _ zi_238) (fun _ h9 => h9) rfl dz_M_door_205 ?_
                    refine lv_iload_n hx hb dz_M_door_208 rfl (lv_at hl 3 rfl) ?_
                    have hin_82 : vp_in p1 61 := zm_isBox_in hok0 c_2
                    refine va_iald hx hb hK hP 2 0 rfl rfl hin_82 dz_M_door_209 ?_
                    have hE_83 : zm_door M p1 p2 p3 = (zm_dr S_81 p1.toNatClampNeg, S_81) := by subst eS_9 eS_81; simp only [zm_door, if_neg c_2, if_neg c_4, if_pos c_7, if_neg c_11, if_pos c_12, if_pos c_72, if_pos c_74, if_pos c_75]
                    exact W.iret (v := zm_dr S_81 p1.toNatClampNeg) hx hb hr (fun t ht hW => ⟨⟨_, (), rfl, by show zm_dr S_81 p1.toNatClampNeg = (zm_door M p1 p2 p3).1; rw [hE_83], by show va_P (dC, dI) vwCl (zm_W ci cj cz h0 a ((zm_door M p1 p2 p3).2)) t.heap; rw [ht, hE_83]; exact hP, by show va_D A (zm_W ci cj cz h0 a ((zm_door M p1 p2 p3).2)); rw [hE_83]; exact hD⟩, hS.F ht⟩) hS.2.2 dz_M_door_210
                · refine lv_aload_n hx hb dz_M_door_171 rfl (lv_at hl 2 rfl) ?_
                  refine lv_iload_n hx hb dz_M_door_172 rfl (lv_at hl 3 rfl) ?_
                  refine lv_iload_n hx hb dz_M_door_173 rfl (lv_at hl 4 rfl) ?_
                  refine lv_if_ne (tgt := 181) hx hb dz_M_door_174 (by decide) (fun c_84 => ?_) (fun c_84 => ?_)
                  · refine lv_iconst (v := 2) hx hb dz_M_door_181 (by decide) ?_
                    have hFc := zw_free hS hA hD
                    refine va_callv (va_runV (As := [.int p1, .int 2]) (rest := []) ⟨hx, hb, hml, hown, hz⟩ (ct_M_open l dC dI ci cj cz h0 a S_9 hok H.size p1 2 (zm_isBox_in hok0 c_2)) (cwV 2 hz (zw_gV zi_322 zi_323 zi_31 zi_35 zi_324) rfl rfl rfl (by decide +kernel) ⟨Nat.le_of_ble_eq_true rfl, Nat.le_of_ble_eq_true rfl⟩) (zw_preUV zw_ns_ok hP hD hK hN (ci := 3) rfl (k := 0) rfl) rfl rfl hl.1 rfl (lv_room (Nat.le_of_ble_eq_true rfl)) dz_M_door_182 ⟨Nat.le_of_ble_eq_true rfl, Nat.le_of_ble_eq_true rfl⟩) hS (fun q _ h => hFc q h) hFc (fun u_85 t_85 H locs ht hvm hw hB hz1 hk1 hS => ?_)
                    obtain ⟨hP, hD⟩ := hB
                    rw [ht] at hP
                    have hD := hD.weaken (fun _ q _ h => hFc q.1 h)
                    obtain ⟨S_86, eS_86⟩ : ∃ z, z = (zm_open S_9 p1 2) := ⟨_, rfl⟩
                    rw [← eS_86] at hP hD
                    have hok : zm_ok S_86 := by rw [eS_86]; exact zm_ok_open hok
                    refine lv_goto (tgt := 204) hx hb dz_M_door_185 (by decide) ?_
                    refine lv_aload_n hx hb dz_M_door_204 rfl (lv_at hl 2 rfl) ?_
                    refine va_get (D := (dC, dI)) (ci := 3) (v := .ref a.2.1) (C := RzM) (T := TzM) (N := 18) hx hb hz inzM hown hK hP 0 rfl rfl 2 (by decide) (hz _ zi_238) (fun _ h9 => h9) rfl dz_M_door_205 ?_
                    refine lv_iload_n hx hb dz_M_door_208 rfl (lv_at hl 3 rfl) ?_
                    have hin_87 : vp_in p1 61 := zm_isBox_in hok0 c_2
                    refine va_iald hx hb hK hP 2 0 rfl rfl hin_87 dz_M_door_209 ?_
                    have hE_88 : zm_door M p1 p2 p3 = (zm_dr S_86 p1.toNatClampNeg, S_86) := by subst eS_9 eS_86; simp only [zm_door, if_neg c_2, if_neg c_4, if_pos c_7, if_neg c_11, if_pos c_12, if_pos c_72, if_neg c_74]
                    exact W.iret (v := zm_dr S_86 p1.toNatClampNeg) hx hb hr (fun t ht hW => ⟨⟨_, (), rfl, by show zm_dr S_86 p1.toNatClampNeg = (zm_door M p1 p2 p3).1; rw [hE_88], by show va_P (dC, dI) vwCl (zm_W ci cj cz h0 a ((zm_door M p1 p2 p3).2)) t.heap; rw [ht, hE_88]; exact hP, by show va_D A (zm_W ci cj cz h0 a ((zm_door M p1 p2 p3).2)); rw [hE_88]; exact hD⟩, hS.F ht⟩) hS.2.2 dz_M_door_210
                  · exact absurd c_84 c_11
              · exact absurd c_73 (by decide)
            · refine lv_iload hx hb dz_M_door_74 (lv_at hl 0 rfl) ?_
              refine lv_iconst (v := 1) hx hb dz_M_door_76 (by decide) ?_
              refine lv_icmp_ne (tgt := 84) hx hb dz_M_door_77 (by decide) (fun c_89 => ?_) (fun c_89 => ?_)
              · refine lv_iconst (v := 0) hx hb dz_M_door_84 (by decide) ?_
                refine lv_goto (tgt := 156) hx hb dz_M_door_85 (by decide) ?_
                refine lv_istore (lv' := [(6, .int 0), (5, .int (zm_dr S_9 p1.toNatClampNeg)), (0, .ref h0), (1, .int p1), (2, .int p2), (3, .long p3)]) hx hb dz_M_door_156 hl (by decide) rfl (fun ls hl => ?_)
                refine lv_iload hx hb dz_M_door_158 (lv_at hl 0 rfl) ?_
                refine lv_if_ne (tgt := 166) hx hb dz_M_door_160 (by decide) (fun c_90 => ?_) (fun c_90 => ?_)
                · exact absurd (by decide) c_90
                · refine lv_bipush (v := -13) hx hb dz_M_door_163 (by decide) ?_
                  have hE_91 : zm_door M p1 p2 p3 = ((-13), S_9) := by subst eS_9; simp only [zm_door, if_neg c_2, if_neg c_4, if_pos c_7, if_neg c_11, if_pos c_12, if_neg c_72, if_neg c_89]
                  exact W.iret (v := (-13)) hx hb hr (fun t ht hW => ⟨⟨_, (), rfl, by show (-13) = (zm_door M p1 p2 p3).1; rw [hE_91], by show va_P (dC, dI) vwCl (zm_W ci cj cz h0 a ((zm_door M p1 p2 p3).2)) t.heap; rw [ht, hE_91]; exact hP, by show va_D A (zm_W ci cj cz h0 a ((zm_door M p1 p2 p3).2)); rw [hE_91]; exact hD⟩, hS.F ht⟩) hS.2.2 dz_M_door_165
              · refine lv_iconst (v := 1) hx hb dz_M_door_80 (by decide) ?_
                refine lv_goto (tgt := 156) hx hb dz_M_door_81 (by decide) ?_
                refine lv_istore (lv' := [(6, .int 1), (5, .int (zm_dr S_9 p1.toNatClampNeg)), (0, .ref h0), (1, .int p1), (2, .int p2), (3, .long p3)]) hx hb dz_M_door_156 hl (by decide) rfl (fun ls hl => ?_)
                refine lv_iload hx hb dz_M_door_158 (lv_at hl 0 rfl) ?_
                refine lv_if_ne (tgt := 166) hx hb dz_M_door_160 (by decide) (fun c_92 => ?_) (fun c_92 => ?_)
                · refine lv_iload_n hx hb dz_M_door_166 rfl (lv_at hl 4 rfl) ?_
                  refine lv_iconst (v := 2) hx hb dz_M_door_167 (by decide) ?_
                  refine lv_icmp_ge (tgt := 188) hx hb dz_M_door_168 (by decide) (fun c_93 => ?_) (fun c_93 => ?_)
                  · refine lv_aload_n hx hb dz_M_door_188 rfl (lv_at hl 2 rfl) ?_
                    refine va_get (D := (dC, dI)) (ci := 3) (v := .ref a.2.1) (C := RzM) (T := TzM) (N := 18) hx hb hz inzM hown hK hP 0 rfl rfl 2 (by decide) (hz _ zi_238) (fun _ h9 => h9) rfl dz_M_door_189 ?_
                    refine lv_iload_n hx hb dz_M_door_192 rfl (lv_at hl 3 rfl) ?_
                    refine lv_iload_n hx hb dz_M_door_193 rfl (lv_at hl 4 rfl) ?_
                    refine lv_iconst (v := 3) hx hb dz_M_door_194 (by decide) ?_
                    refine lv_icmp_ne (tgt := 202) hx hb dz_M_door_195 (by decide) (fun c_94 => ?_) (fun c_94 => ?_)
                    · refine lv_iconst (v := 0) hx hb dz_M_door_202 (by decide) ?_
                      have hin_95 : vp_in p1 61 := zm_isBox_in hok0 c_2
                      refine va_iast hx hb hK hP hD hS 2 0 rfl rfl hin_95 dz_M_door_203 (fun H locs hP hD hS => ?_)
                      obtain ⟨S_96, eS_96⟩ : ∃ z, z = zm_sdr S_9 (upd (zm_dr S_9) p1.toNatClampNeg 0) := ⟨_, rfl⟩
                      have hP : va_P (dC, dI) vwCl (zm_W ci cj cz h0 a S_96) H := by rw [eS_96]; exact hP
                      have hD : va_D A (zm_W ci cj cz h0 a S_96) := by rw [eS_96]; exact hD
                      have hok : zm_ok S_96 := by rw [eS_96]; exact hok
                      refine lv_aload_n hx hb dz_M_door_204 rfl (lv_at hl 2 rfl) ?_
                      refine va_get (D := (dC, dI)) (ci := 3) (v := .ref a.2.1) (C := RzM) (T := TzM) (N := 18) hx hb hz inzM hown hK hP 0 rfl rfl 2 (by decide) (hz _ zi_238) (fun _ h9 => h9) rfl dz_M_door_205 ?_
                      refine lv_iload_n hx hb dz_M_door_208 rfl (lv_at hl 3 rfl) ?_
                      have hin_97 : vp_in p1 61 := zm_isBox_in hok0 c_2
                      refine va_iald hx hb hK hP 2 0 rfl rfl hin_97 dz_M_door_209 ?_
                      have hE_98 : zm_door M p1 p2 p3 = (zm_dr S_96 p1.toNatClampNeg, S_96) := by subst eS_9 eS_96; simp only [zm_door, if_neg c_2, if_neg c_4, if_pos c_7, if_neg c_11, if_pos c_12, if_neg c_72, if_pos c_89, if_pos c_93, if_neg c_94]
                      exact W.iret (v := zm_dr S_96 p1.toNatClampNeg) hx hb hr (fun t ht hW => ⟨⟨_, (), rfl, by show zm_dr S_96 p1.toNatClampNeg = (zm_door M p1 p2 p3).1; rw [hE_98], by show va_P (dC, dI) vwCl (zm_W ci cj cz h0 a ((zm_door M p1 p2 p3).2)) t.heap; rw [ht, hE_98]; exact hP, by show va_D A (zm_W ci cj cz h0 a ((zm_door M p1 p2 p3).2)); rw [hE_98]; exact hD⟩, hS.F ht⟩) hS.2.2 dz_M_door_210
                    · refine lv_iconst (v := 3) hx hb dz_M_door_198 (by decide) ?_
                      refine lv_goto (tgt := 203) hx hb dz_M_door_199 (by decide) ?_
                      have hin_99 : vp_in p1 61 := zm_isBox_in hok0 c_2
                      refine va_iast hx hb hK hP hD hS 2 0 rfl rfl hin_99 dz_M_door_203 (fun H locs hP hD hS => ?_)
                      obtain ⟨S_100, eS_100⟩ : ∃ z, z = zm_sdr S_9 (upd (zm_dr S_9) p1.toNatClampNeg 3) := ⟨_, rfl⟩
                      have hP : va_P (dC, dI) vwCl (zm_W ci cj cz h0 a S_100) H := by rw [eS_100]; exact hP
                      have hD : va_D A (zm_W ci cj cz h0 a S_100) := by rw [eS_100]; exact hD
                      have hok : zm_ok S_100 := by rw [eS_100]; exact hok
                      refine lv_aload_n hx hb dz_M_door_204 rfl (lv_at hl 2 rfl) ?_
                      refine va_get (D := (dC, dI)) (ci := 3) (v := .ref a.2.1) (C := RzM) (T := TzM) (N := 18) hx hb hz inzM hown hK hP 0 rfl rfl 2 (by decide) (hz _ zi_238) (fun _ h9 => h9) rfl dz_M_door_205 ?_
                      refine lv_iload_n hx hb dz_M_door_208 rfl (lv_at hl 3 rfl) ?_
                      have hin_101 : vp_in p1 61 := zm_isBox_in hok0 c_2
                      refine va_iald hx hb hK hP 2 0 rfl rfl hin_101 dz_M_door_209 ?_
                      have hE_102 : zm_door M p1 p2 p3 = (zm_dr S_100 p1.toNatClampNeg, S_100) := by subst eS_9 eS_100; simp only [zm_door, if_neg c_2, if_neg c_4, if_pos c_7, if_neg c_11, if_pos c_12, if_neg c_72, if_pos c_89, if_pos c_93, if_pos c_94]
                      exact W.iret (v := zm_dr S_100 p1.toNatClampNeg) hx hb hr (fun t ht hW => ⟨⟨_, (), rfl, by show zm_dr S_100 p1.toNatClampNeg = (zm_door M p1 p2 p3).1; rw [hE_102], by show va_P (dC, dI) vwCl (zm_W ci cj cz h0 a ((zm_door M p1 p2 p3).2)) t.heap; rw [ht, hE_102]; exact hP, by show va_D A (zm_W ci cj cz h0 a ((zm_door M p1 p2 p3).2)); rw [hE_102]; exact hD⟩, hS.F ht⟩) hS.2.2 dz_M_door_210
                  · refine lv_aload_n hx hb dz_M_door_171 rfl (lv_at hl 2 rfl) ?_
                    refine lv_iload_n hx hb dz_M_door_172 rfl (lv_at hl 3 rfl) ?_
                    refine lv_iload_n hx hb dz_M_door_173 rfl (lv_at hl 4 rfl) ?_
                    refine lv_if_ne (tgt := 181) hx hb dz_M_door_174 (by decide) (fun c_103 => ?_) (fun c_103 => ?_)
                    · refine lv_iconst (v := 2) hx hb dz_M_door_181 (by decide) ?_
                      have hFc := zw_free hS hA hD
                      refine va_callv (va_runV (As := [.int p1, .int 2]) (rest := []) ⟨hx, hb, hml, hown, hz⟩ (ct_M_open l dC dI ci cj cz h0 a S_9 hok H.size p1 2 (zm_isBox_in hok0 c_2)) (cwV 2 hz (zw_gV zi_322 zi_323 zi_31 zi_35 zi_324) rfl rfl rfl (by decide +kernel) ⟨Nat.le_of_ble_eq_true rfl, Nat.le_of_ble_eq_true rfl⟩) (zw_preUV zw_ns_ok hP hD hK hN (ci := 3) rfl (k := 0) rfl) rfl rfl hl.1 rfl (lv_room (Nat.le_of_ble_eq_true rfl)) dz_M_door_182 ⟨Nat.le_of_ble_eq_true rfl, Nat.le_of_ble_eq_true rfl⟩) hS (fun q _ h => hFc q h) hFc (fun u_104 t_104 H locs ht hvm hw hB hz1 hk1 hS => ?_)
                      obtain ⟨hP, hD⟩ := hB
                      rw [ht] at hP
                      have hD := hD.weaken (fun _ q _ h => hFc q.1 h)
                      obtain ⟨S_105, eS_105⟩ : ∃ z, z = (zm_open S_9 p1 2) := ⟨_, rfl⟩
                      rw [← eS_105] at hP hD
                      have hok : zm_ok S_105 := by rw [eS_105]; exact zm_ok_open hok
                      refine lv_goto (tgt := 204) hx hb dz_M_door_185 (by decide) ?_
                      refine lv_aload_n hx hb dz_M_door_204 rfl (lv_at hl 2 rfl) ?_
                      refine va_get (D := (dC, dI)) (ci := 3) (v := .ref a.2.1) (C := RzM) (T := TzM) (N := 18) hx hb hz inzM hown hK hP 0 rfl rfl 2 (by decide) (hz _ zi_238) (fun _ h9 => h9) rfl dz_M_door_205 ?_
                      refine lv_iload_n hx hb dz_M_door_208 rfl (lv_at hl 3 rfl) ?_
                      have hin_106 : vp_in p1 61 := zm_isBox_in hok0 c_2
                      refine va_iald hx hb hK hP 2 0 rfl rfl hin_106 dz_M_door_209 ?_
                      have hE_107 : zm_door M p1 p2 p3 = (zm_dr S_105 p1.toNatClampNeg, S_105) := by subst eS_9 eS_105; simp only [zm_door, if_neg c_2, if_neg c_4, if_pos c_7, if_neg c_11, if_pos c_12, if_neg c_72, if_pos c_89, if_neg c_93]
                      exact W.iret (v := zm_dr S_105 p1.toNatClampNeg) hx hb hr (fun t ht hW => ⟨⟨_, (), rfl, by show zm_dr S_105 p1.toNatClampNeg = (zm_door M p1 p2 p3).1; rw [hE_107], by show va_P (dC, dI) vwCl (zm_W ci cj cz h0 a ((zm_door M p1 p2 p3).2)) t.heap; rw [ht, hE_107]; exact hP, by show va_D A (zm_W ci cj cz h0 a ((zm_door M p1 p2 p3).2)); rw [hE_107]; exact hD⟩, hS.F ht⟩) hS.2.2 dz_M_door_210
                    · exact absurd c_103 c_11
                · exact absurd c_92 (by decide)
        · refine lv_iload hx hb dz_M_door_51 (lv_at hl 0 rfl) ?_
          refine lv_if_ne (tgt := 60) hx hb dz_M_door_53 (by decide) (fun c_108 => ?_) (fun c_108 => ?_)
          · refine lv_iconst (v := 0) hx hb dz_M_door_60 (by decide) ?_
            refine lv_goto (tgt := 156) hx hb dz_M_door_61 (by decide) ?_
            refine lv_istore (lv' := [(6, .int 0), (5, .int (zm_dr S_9 p1.toNatClampNeg)), (0, .ref h0), (1, .int p1), (2, .int p2), (3, .long p3)]) hx hb dz_M_door_156 hl (by decide) rfl (fun ls hl => ?_)
            refine lv_iload hx hb dz_M_door_158 (lv_at hl 0 rfl) ?_
            refine lv_if_ne (tgt := 166) hx hb dz_M_door_160 (by decide) (fun c_109 => ?_) (fun c_109 => ?_)
            · exact absurd (by decide) c_109
            · refine lv_bipush (v := -13) hx hb dz_M_door_163 (by decide) ?_
              have hE_110 : zm_door M p1 p2 p3 = ((-13), S_9) := by subst eS_9; simp only [zm_door, if_neg c_2, if_neg c_4, if_pos c_7, if_pos c_11, if_neg c_108]
              exact W.iret (v := (-13)) hx hb hr (fun t ht hW => ⟨⟨_, (), rfl, by show (-13) = (zm_door M p1 p2 p3).1; rw [hE_110], by show va_P (dC, dI) vwCl (zm_W ci cj cz h0 a ((zm_door M p1 p2 p3).2)) t.heap; rw [ht, hE_110]; exact hP, by show va_D A (zm_W ci cj cz h0 a ((zm_door M p1 p2 p3).2)); rw [hE_110]; exact hD⟩, hS.F ht⟩) hS.2.2 dz_M_door_165
          · refine lv_iconst (v := 1) hx hb dz_M_door_56 (by decide) ?_
            refine lv_goto (tgt := 156) hx hb dz_M_door_57 (by decide) ?_
            refine lv_istore (lv' := [(6, .int 1), (5, .int (zm_dr S_9 p1.toNatClampNeg)), (0, .ref h0), (1, .int p1), (2, .int p2), (3, .long p3)]) hx hb dz_M_door_156 hl (by decide) rfl (fun ls hl => ?_)
            refine lv_iload hx hb dz_M_door_158 (lv_at hl 0 rfl) ?_
            refine lv_if_ne (tgt := 166) hx hb dz_M_door_160 (by decide) (fun c_111 => ?_) (fun c_111 => ?_)
            · refine lv_iload_n hx hb dz_M_door_166 rfl (lv_at hl 4 rfl) ?_
              refine lv_iconst (v := 2) hx hb dz_M_door_167 (by decide) ?_
              refine lv_icmp_ge (tgt := 188) hx hb dz_M_door_168 (by decide) (fun c_112 => ?_) (fun c_112 => ?_)
              · refine lv_aload_n hx hb dz_M_door_188 rfl (lv_at hl 2 rfl) ?_
                refine va_get (D := (dC, dI)) (ci := 3) (v := .ref a.2.1) (C := RzM) (T := TzM) (N := 18) hx hb hz inzM hown hK hP 0 rfl rfl 2 (by decide) (hz _ zi_238) (fun _ h9 => h9) rfl dz_M_door_189 ?_
                refine lv_iload_n hx hb dz_M_door_192 rfl (lv_at hl 3 rfl) ?_
                refine lv_iload_n hx hb dz_M_door_193 rfl (lv_at hl 4 rfl) ?_
                refine lv_iconst (v := 3) hx hb dz_M_door_194 (by decide) ?_
                refine lv_icmp_ne (tgt := 202) hx hb dz_M_door_195 (by decide) (fun c_113 => ?_) (fun c_113 => ?_)
                · refine lv_iconst (v := 0) hx hb dz_M_door_202 (by decide) ?_
                  have hin_114 : vp_in p1 61 := zm_isBox_in hok0 c_2
                  refine va_iast hx hb hK hP hD hS 2 0 rfl rfl hin_114 dz_M_door_203 (fun H locs hP hD hS => ?_)
                  obtain ⟨S_115, eS_115⟩ : ∃ z, z = zm_sdr S_9 (upd (zm_dr S_9) p1.toNatClampNeg 0) := ⟨_, rfl⟩
                  have hP : va_P (dC, dI) vwCl (zm_W ci cj cz h0 a S_115) H := by rw [eS_115]; exact hP
                  have hD : va_D A (zm_W ci cj cz h0 a S_115) := by rw [eS_115]; exact hD
                  have hok : zm_ok S_115 := by rw [eS_115]; exact hok
                  refine lv_aload_n hx hb dz_M_door_204 rfl (lv_at hl 2 rfl) ?_
                  refine va_get (D := (dC, dI)) (ci := 3) (v := .ref a.2.1) (C := RzM) (T := TzM) (N := 18) hx hb hz inzM hown hK hP 0 rfl rfl 2 (by decide) (hz _ zi_238) (fun _ h9 => h9) rfl dz_M_door_205 ?_
                  refine lv_iload_n hx hb dz_M_door_208 rfl (lv_at hl 3 rfl) ?_
                  have hin_116 : vp_in p1 61 := zm_isBox_in hok0 c_2
                  refine va_iald hx hb hK hP 2 0 rfl rfl hin_116 dz_M_door_209 ?_
                  have hE_117 : zm_door M p1 p2 p3 = (zm_dr S_115 p1.toNatClampNeg, S_115) := by subst eS_9 eS_115; simp only [zm_door, if_neg c_2, if_neg c_4, if_pos c_7, if_pos c_11, if_pos c_108, if_pos c_112, if_neg c_113]
                  exact W.iret (v := zm_dr S_115 p1.toNatClampNeg) hx hb hr (fun t ht hW => ⟨⟨_, (), rfl, by show zm_dr S_115 p1.toNatClampNeg = (zm_door M p1 p2 p3).1; rw [hE_117], by show va_P (dC, dI) vwCl (zm_W ci cj cz h0 a ((zm_door M p1 p2 p3).2)) t.heap; rw [ht, hE_117]; exact hP, by show va_D A (zm_W ci cj cz h0 a ((zm_door M p1 p2 p3).2)); rw [hE_117]; exact hD⟩, hS.F ht⟩) hS.2.2 dz_M_door_210
                · refine lv_iconst (v := 3) hx hb dz_M_door_198 (by decide) ?_
                  refine lv_goto (tgt := 203) hx hb dz_M_door_199 (by decide) ?_
                  have hin_118 : vp_in p1 61 := zm_isBox_in hok0 c_2
                  refine va_iast hx hb hK hP hD hS 2 0 rfl rfl hin_118 dz_M_door_203 (fun H locs hP hD hS => ?_)
                  obtain ⟨S_119, eS_119⟩ : ∃ z, z = zm_sdr S_9 (upd (zm_dr S_9) p1.toNatClampNeg 3) := ⟨_, rfl⟩
                  have hP : va_P (dC, dI) vwCl (zm_W ci cj cz h0 a S_119) H := by rw [eS_119]; exact hP
                  have hD : va_D A (zm_W ci cj cz h0 a S_119) := by rw [eS_119]; exact hD
                  have hok : zm_ok S_119 := by rw [eS_119]; exact hok
                  refine lv_aload_n hx hb dz_M_door_204 rfl (lv_at hl 2 rfl) ?_
                  refine va_get (D := (dC, dI)) (ci := 3) (v := .ref a.2.1) (C := RzM) (T := TzM) (N := 18) hx hb hz inzM hown hK hP 0 rfl rfl 2 (by decide) (hz _ zi_238) (fun _ h9 => h9) rfl dz_M_door_205 ?_
                  refine lv_iload_n hx hb dz_M_door_208 rfl (lv_at hl 3 rfl) ?_
                  have hin_120 : vp_in p1 61 := zm_isBox_in hok0 c_2
                  refine va_iald hx hb hK hP 2 0 rfl rfl hin_120 dz_M_door_209 ?_
                  have hE_121 : zm_door M p1 p2 p3 = (zm_dr S_119 p1.toNatClampNeg, S_119) := by subst eS_9 eS_119; simp only [zm_door, if_neg c_2, if_neg c_4, if_pos c_7, if_pos c_11, if_pos c_108, if_pos c_112, if_pos c_113]
                  exact W.iret (v := zm_dr S_119 p1.toNatClampNeg) hx hb hr (fun t ht hW => ⟨⟨_, (), rfl, by show zm_dr S_119 p1.toNatClampNeg = (zm_door M p1 p2 p3).1; rw [hE_121], by show va_P (dC, dI) vwCl (zm_W ci cj cz h0 a ((zm_door M p1 p2 p3).2)) t.heap; rw [ht, hE_121]; exact hP, by show va_D A (zm_W ci cj cz h0 a ((zm_door M p1 p2 p3).2)); rw [hE_121]; exact hD⟩, hS.F ht⟩) hS.2.2 dz_M_door_210
              · refine lv_aload_n hx hb dz_M_door_171 rfl (lv_at hl 2 rfl) ?_
                refine lv_iload_n hx hb dz_M_door_172 rfl (lv_at hl 3 rfl) ?_
                refine lv_iload_n hx hb dz_M_door_173 rfl (lv_at hl 4 rfl) ?_
                refine lv_if_ne (tgt := 181) hx hb dz_M_door_174 (by decide) (fun c_122 => ?_) (fun c_122 => ?_)
                · exact absurd c_11 c_122
                · refine lv_iconst (v := 1) hx hb dz_M_door_177 (by decide) ?_
                  refine lv_goto (tgt := 182) hx hb dz_M_door_178 (by decide) ?_
                  have hFc := zw_free hS hA hD
                  refine va_callv (va_runV (As := [.int p1, .int 1]) (rest := []) ⟨hx, hb, hml, hown, hz⟩ (ct_M_open l dC dI ci cj cz h0 a S_9 hok H.size p1 1 (zm_isBox_in hok0 c_2)) (cwV 2 hz (zw_gV zi_322 zi_323 zi_31 zi_35 zi_324) rfl rfl rfl (by decide +kernel) ⟨Nat.le_of_ble_eq_true rfl, Nat.le_of_ble_eq_true rfl⟩) (zw_preUV zw_ns_ok hP hD hK hN (ci := 3) rfl (k := 0) rfl) rfl rfl hl.1 rfl (lv_room (Nat.le_of_ble_eq_true rfl)) dz_M_door_182 ⟨Nat.le_of_ble_eq_true rfl, Nat.le_of_ble_eq_true rfl⟩) hS (fun q _ h => hFc q h) hFc (fun u_123 t_123 H locs ht hvm hw hB hz1 hk1 hS => ?_)
                  obtain ⟨hP, hD⟩ := hB
                  rw [ht] at hP
                  have hD := hD.weaken (fun _ q _ h => hFc q.1 h)
                  obtain ⟨S_124, eS_124⟩ : ∃ z, z = (zm_open S_9 p1 1) := ⟨_, rfl⟩
                  rw [← eS_124] at hP hD
                  have hok : zm_ok S_124 := by rw [eS_124]; exact zm_ok_open hok
                  refine lv_goto (tgt := 204) hx hb dz_M_door_185 (by decide) ?_
                  refine lv_aload_n hx hb dz_M_door_204 rfl (lv_at hl 2 rfl) ?_
                  refine va_get (D := (dC, dI)) (ci := 3) (v := .ref a.2.1) (C := RzM) (T := TzM) (N := 18) hx hb hz inzM hown hK hP 0 rfl rfl 2 (by decide) (hz _ zi_238) (fun _ h9 => h9) rfl dz_M_door_205 ?_
                  refine lv_iload_n hx hb dz_M_door_208 rfl (lv_at hl 3 rfl) ?_
                  have hin_125 : vp_in p1 61 := zm_isBox_in hok0 c_2
                  refine va_iald hx hb hK hP 2 0 rfl rfl hin_125 dz_M_door_209 ?_
                  have hE_126 : zm_door M p1 p2 p3 = (zm_dr S_124 p1.toNatClampNeg, S_124) := by subst eS_9 eS_124; simp only [zm_door, if_neg c_2, if_neg c_4, if_pos c_7, if_pos c_11, if_pos c_108, if_neg c_112]
                  exact W.iret (v := zm_dr S_124 p1.toNatClampNeg) hx hb hr (fun t ht hW => ⟨⟨_, (), rfl, by show zm_dr S_124 p1.toNatClampNeg = (zm_door M p1 p2 p3).1; rw [hE_126], by show va_P (dC, dI) vwCl (zm_W ci cj cz h0 a ((zm_door M p1 p2 p3).2)) t.heap; rw [ht, hE_126]; exact hP, by show va_D A (zm_W ci cj cz h0 a ((zm_door M p1 p2 p3).2)); rw [hE_126]; exact hD⟩, hS.F ht⟩) hS.2.2 dz_M_door_210
            · exact absurd c_111 (by decide)
      · refine lv_bipush (v := -12) hx hb dz_M_door_31 (by decide) ?_
        have hE_127 : zm_door M p1 p2 p3 = ((-12), M) := by simp only [zm_door, if_neg c_2, if_neg c_4, if_neg c_7]
        exact W.iret (v := (-12)) hx hb hr (fun t ht hW => ⟨⟨_, (), rfl, by show (-12) = (zm_door M p1 p2 p3).1; rw [hE_127], by show va_P (dC, dI) vwCl (zm_W ci cj cz h0 a ((zm_door M p1 p2 p3).2)) t.heap; rw [ht, hE_127]; exact hP, by show va_D A (zm_W ci cj cz h0 a ((zm_door M p1 p2 p3).2)); rw [hE_127]; exact hD⟩, hS.F ht⟩) hS.2.2 dz_M_door_33
  · refine lv_bipush (v := -11) hx hb dz_M_door_8 (by decide) ?_
    have hE_128 : zm_door M p1 p2 p3 = ((-11), M) := by simp only [zm_door, if_pos c_2]
    exact W.iret (v := (-11)) hx hb hr (fun t ht hW => ⟨⟨_, (), rfl, by show (-11) = (zm_door M p1 p2 p3).1; rw [hE_128], by show va_P (dC, dI) vwCl (zm_W ci cj cz h0 a ((zm_door M p1 p2 p3).2)) t.heap; rw [ht, hE_128]; exact hP, by show va_D A (zm_W ci cj cz h0 a ((zm_door M p1 p2 p3).2)); rw [hE_128]; exact hD⟩, hS.F ht⟩) hS.2.2 dz_M_door_10
end
