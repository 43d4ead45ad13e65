section
-- ===== PART A: goes FIRST, ahead of the names: the tables' words, and 'selects' of the private methods out of them =====
/-- a private method of a class that the tables say can be made, by its rows of tables_1 -/
def lw_okq (q : MethodName × Nat) : Prop := (q.1.cls ≠ "java/lang/invoke/MethodHandle" ∧ q.1.cls ≠ "java/lang/invoke/VarHandle") ∧ Cond.instantiable q.1.cls q.2 ∈ tables_1 ∧ Cond.privateMethod q.1 ∈ tables_1 ∧ Cond.instanceMethod q.1 ∈ tables_1
theorem lw_p0 : lw_okq (⟨"RentedMoments$History", "dropOldest", "()V"⟩, 2) := ⟨⟨by decide +kernel, by decide +kernel⟩, List.mem_of_getElem? (i := 185) (by decide +kernel), List.mem_of_getElem? (i := 381) (by decide +kernel), List.mem_of_getElem? (i := 382) (by decide +kernel)⟩
theorem lw_p1 : lw_okq (⟨"RentedMoments$State", "noteCommit", "(I)V"⟩, 11) := ⟨⟨by decide +kernel, by decide +kernel⟩, List.mem_of_getElem? (i := 19) (by decide +kernel), List.mem_of_getElem? (i := 505) (by decide +kernel), List.mem_of_getElem? (i := 506) (by decide +kernel)⟩
theorem lw_p2 : lw_okq (⟨"RentedMoments$State", "pushWrites", "(LRentedMoments$Reader;)V"⟩, 11) := ⟨⟨by decide +kernel, by decide +kernel⟩, List.mem_of_getElem? (i := 19) (by decide +kernel), List.mem_of_getElem? (i := 510) (by decide +kernel), List.mem_of_getElem? (i := 511) (by decide +kernel)⟩
def lw_privs_1 : List (MethodName × Nat) := [(⟨"RentedMoments$History", "dropOldest", "()V"⟩, 2), (⟨"RentedMoments$State", "noteCommit", "(I)V"⟩, 11), (⟨"RentedMoments$State", "pushWrites", "(LRentedMoments$Reader;)V"⟩, 11)]
theorem lw_r1 : ∀ q ∈ lw_privs_1, lw_okq q := List.forall_mem_cons.mpr ⟨lw_p0, List.forall_mem_cons.mpr ⟨lw_p1, List.forall_mem_cons.mpr ⟨lw_p2, fun _ h => absurd h List.not_mem_nil⟩⟩⟩
def lw_privs : List (MethodName × Nat) := lw_privs_1
def lw_tbl : List Cond := k2_sels lw_privs ++ tables_1
theorem lw_privs_ok : ∀ q ∈ lw_privs, lw_okq q := lw_r1
def RX0 : String := "RentedMoments$Cell"
def TX0 : u_T := fun k => match k with
  | 0 => ("RentedMoments$Cell", "values", "[I", true)
  | 1 => ("RentedMoments$Cell", "moments", "[I", true)
  | _ => ("RentedMoments$Cell", "places", "I", false)
def tyX0 : Nat → FieldType := fun k => match k with
  | 0 => .array .int
  | 1 => .array .int
  | _ => .int
abbrev wsX00 : List Cond := u_ws RX0 TX0 3
theorem nmX0 : ∀ a, a < 3 → ∀ b, b < 3 → a ≠ b → (TX0 a).2.1 ≠ (TX0 b).2.1 := by decide +kernel
theorem tyX0_ok : ∀ k, k < 3 → parseFieldDescriptor (TX0 k).2.2.1 = some (tyX0 k) := by decide +kernel
abbrev cX0_init : ByteArray := prog_2_method_1_code
def yX0_init : MethodName := ⟨RX0, "<init>", "()V"⟩
abbrev cX0_copyFrom : ByteArray := prog_2_method_2_code
def yX0_copyFrom : MethodName := ⟨RX0, "copyFrom", "(LRentedMoments$Cell;)V"⟩
abbrev cX0_placeSeenAt : ByteArray := prog_2_method_3_code
def yX0_placeSeenAt : MethodName := ⟨RX0, "placeSeenAt", "(I)I"⟩
abbrev cX0_valueSeenAt : ByteArray := prog_2_method_4_code
def yX0_valueSeenAt : MethodName := ⟨RX0, "valueSeenAt", "(I)I"⟩
abbrev cX0_push : ByteArray := prog_2_method_5_code
def yX0_push : MethodName := ⟨RX0, "push", "(II)V"⟩
abbrev cX0_retainOld : ByteArray := prog_2_method_6_code
def yX0_retainOld : MethodName := ⟨RX0, "retainOld", "(I)I"⟩
def RX1 : String := "RentedMoments$Commit"
def TX1 : u_T := fun k => match k with
  | 0 => ("RentedMoments$Commit", "reader", "I", false)
  | 1 => ("RentedMoments$Commit", "readerMoment", "I", false)
  | 2 => ("RentedMoments$Commit", "madeMoment", "I", false)
  | 3 => ("RentedMoments$Commit", "writtenCells", "I", false)
  | 4 => ("RentedMoments$Commit", "readCells", "I", false)
  | _ => ("RentedMoments$Commit", "skews", "I", false)
def tyX1 : Nat → FieldType := fun k => match k with
  | 0 => .int
  | 1 => .int
  | 2 => .int
  | 3 => .int
  | 4 => .int
  | _ => .int
abbrev wsX10 : List Cond := u_ws RX1 TX1 6
theorem nmX1 : ∀ a, a < 6 → ∀ b, b < 6 → a ≠ b → (TX1 a).2.1 ≠ (TX1 b).2.1 := by decide +kernel
theorem tyX1_ok : ∀ k, k < 6 → parseFieldDescriptor (TX1 k).2.2.1 = some (tyX1 k) := by decide +kernel
abbrev cX1_init : ByteArray := prog_3_method_1_code
def yX1_init : MethodName := ⟨RX1, "<init>", "()V"⟩
abbrev cX1_copyFrom : ByteArray := prog_3_method_2_code
def yX1_copyFrom : MethodName := ⟨RX1, "copyFrom", "(LRentedMoments$Commit;)V"⟩
abbrev cX1_isInSkewWithLater : ByteArray := prog_3_method_3_code
def yX1_isInSkewWithLater : MethodName := ⟨RX1, "isInSkewWithLater", "(LRentedMoments$Reader;)Z"⟩
def RX2 : String := "RentedMoments$History"
def TX2 : u_T := fun k => match k with
  | 0 => ("RentedMoments$History", "states", "[LRentedMoments$State;", true)
  | _ => ("RentedMoments$History", "length", "I", false)
def tyX2 : Nat → FieldType := fun k => match k with
  | 0 => .array (.object "RentedMoments$State")
  | _ => .int
abbrev wsX20 : List Cond := u_ws RX2 TX2 2
theorem nmX2 : ∀ a, a < 2 → ∀ b, b < 2 → a ≠ b → (TX2 a).2.1 ≠ (TX2 b).2.1 := by decide +kernel
theorem tyX2_ok : ∀ k, k < 2 → parseFieldDescriptor (TX2 k).2.2.1 = some (tyX2 k) := by decide +kernel
abbrev cX2_init : ByteArray := prog_4_method_1_code
def yX2_init : MethodName := ⟨RX2, "<init>", "()V"⟩
abbrev cX2_record : ByteArray := prog_4_method_2_code
def yX2_record : MethodName := ⟨RX2, "record", "(LRentedMoments$State;)V"⟩
abbrev cX2_dropOldest : ByteArray := prog_4_method_3_code
def yX2_dropOldest : MethodName := ⟨RX2, "dropOldest", "()V"⟩
abbrev cX2_bringBack : ByteArray := prog_4_method_4_code
def yX2_bringBack : MethodName := ⟨RX2, "bringBack", "(LRentedMoments$State;)V"⟩
def RX3 : String := "RentedMoments$Reader"
def TX3 : u_T := fun k => match k with
  | 0 => ("RentedMoments$Reader", "writes", "[I", true)
  | 1 => ("RentedMoments$Reader", "state", "I", false)
  | 2 => ("RentedMoments$Reader", "moment", "I", false)
  | 3 => ("RentedMoments$Reader", "purse", "I", false)
  | 4 => ("RentedMoments$Reader", "readCells", "I", false)
  | 5 => ("RentedMoments$Reader", "writtenCells", "I", false)
  | 6 => ("RentedMoments$Reader", "term", "I", false)
  | 7 => ("RentedMoments$Reader", "paid", "I", false)
  | _ => ("RentedMoments$Reader", "wasWidow", "Z", false)
def tyX3 : Nat → FieldType := fun k => match k with
  | 0 => .array .int
  | 1 => .int
  | 2 => .int
  | 3 => .int
  | 4 => .int
  | 5 => .int
  | 6 => .int
  | 7 => .int
  | _ => .boolean
abbrev wsX30 : List Cond := u_ws RX3 TX3 9
theorem nmX3 : ∀ a, a < 9 → ∀ b, b < 9 → a ≠ b → (TX3 a).2.1 ≠ (TX3 b).2.1 := by decide +kernel
theorem tyX3_ok : ∀ k, k < 9 → parseFieldDescriptor (TX3 k).2.2.1 = some (tyX3 k) := by decide +kernel
abbrev cX3_init : ByteArray := prog_5_method_1_code
def yX3_init : MethodName := ⟨RX3, "<init>", "()V"⟩
abbrev cX3_begin : ByteArray := prog_5_method_2_code
def yX3_begin : MethodName := ⟨RX3, "begin", "(II)V"⟩
abbrev cX3_copyFrom : ByteArray := prog_5_method_3_code
def yX3_copyFrom : MethodName := ⟨RX3, "copyFrom", "(LRentedMoments$Reader;)V"⟩
abbrev cX3_isOpen : ByteArray := prog_5_method_4_code
def yX3_isOpen : MethodName := ⟨RX3, "isOpen", "()Z"⟩
abbrev cX3_isOpenWidow : ByteArray := prog_5_method_5_code
def yX3_isOpenWidow : MethodName := ⟨RX3, "isOpenWidow", "()Z"⟩
abbrev cX3_paysRent : ByteArray := prog_5_method_6_code
def yX3_paysRent : MethodName := ⟨RX3, "paysRent", "()Z"⟩
abbrev cX3_hasWrite : ByteArray := prog_5_method_7_code
def yX3_hasWrite : MethodName := ⟨RX3, "hasWrite", "(I)Z"⟩
abbrev cX3_putWrite : ByteArray := prog_5_method_8_code
def yX3_putWrite : MethodName := ⟨RX3, "putWrite", "(II)V"⟩
abbrev cX3_numberOfWrites : ByteArray := prog_5_method_9_code
def yX3_numberOfWrites : MethodName := ⟨RX3, "numberOfWrites", "()I"⟩
def RX4 : String := "RentedMoments$State"
def TX4 : u_T := fun k => match k with
  | 0 => ("RentedMoments$State", "cells", "[LRentedMoments$Cell;", true)
  | 1 => ("RentedMoments$State", "readers", "[LRentedMoments$Reader;", true)
  | 2 => ("RentedMoments$State", "commits", "[LRentedMoments$Commit;", true)
  | 3 => ("RentedMoments$State", "moment", "I", false)
  | 4 => ("RentedMoments$State", "tickNumber", "I", false)
  | 5 => ("RentedMoments$State", "rent", "I", false)
  | 6 => ("RentedMoments$State", "readersBeen", "I", false)
  | 7 => ("RentedMoments$State", "commitsMade", "I", false)
  | 8 => ("RentedMoments$State", "removedVersions", "I", false)
  | 9 => ("RentedMoments$State", "skewForbidden", "Z", false)
  | _ => ("RentedMoments$State", "dues", "[I", true)
def tyX4 : Nat → FieldType := fun k => match k with
  | 0 => .array (.object "RentedMoments$Cell")
  | 1 => .array (.object "RentedMoments$Reader")
  | 2 => .array (.object "RentedMoments$Commit")
  | 3 => .int
  | 4 => .int
  | 5 => .int
  | 6 => .int
  | 7 => .int
  | 8 => .int
  | 9 => .boolean
  | _ => .array .int
abbrev wsX40 : List Cond := u_ws RX4 TX4 11
theorem nmX4 : ∀ a, a < 11 → ∀ b, b < 11 → a ≠ b → (TX4 a).2.1 ≠ (TX4 b).2.1 := by decide +kernel
theorem tyX4_ok : ∀ k, k < 11 → parseFieldDescriptor (TX4 k).2.2.1 = some (tyX4 k) := by decide +kernel
abbrev cX4_init : ByteArray := prog_6_method_1_code
def yX4_init : MethodName := ⟨RX4, "<init>", "()V"⟩
abbrev cX4_copyFrom : ByteArray := prog_6_method_2_code
def yX4_copyFrom : MethodName := ⟨RX4, "copyFrom", "(LRentedMoments$State;)V"⟩
abbrev cX4_hasReader : ByteArray := prog_6_method_3_code
def yX4_hasReader : MethodName := ⟨RX4, "hasReader", "(I)Z"⟩
abbrev cX4_addReader : ByteArray := prog_6_method_4_code
def yX4_addReader : MethodName := ⟨RX4, "addReader", "(I)I"⟩
abbrev cX4_readersIn : ByteArray := prog_6_method_5_code
def yX4_readersIn : MethodName := ⟨RX4, "readersIn", "(I)I"⟩
abbrev cX4_openWidows : ByteArray := prog_6_method_6_code
def yX4_openWidows : MethodName := ⟨RX4, "openWidows", "()I"⟩
abbrev cX4_coinsPaid : ByteArray := prog_6_method_7_code
def yX4_coinsPaid : MethodName := ⟨RX4, "coinsPaid", "()I"⟩
abbrev cX4_writersOf : ByteArray := prog_6_method_8_code
def yX4_writersOf : MethodName := ⟨RX4, "writersOf", "(I)I"⟩
abbrev cX4_seersOf : ByteArray := prog_6_method_9_code
def yX4_seersOf : MethodName := ⟨RX4, "seersOf", "(LRentedMoments$Cell;I)I"⟩
abbrev cX4_payersOf : ByteArray := prog_6_method_10_code
def yX4_payersOf : MethodName := ⟨RX4, "payersOf", "(LRentedMoments$Cell;I)I"⟩
abbrev cX4_placesSeen : ByteArray := prog_6_method_11_code
def yX4_placesSeen : MethodName := ⟨RX4, "placesSeen", "(LRentedMoments$Cell;I)I"⟩
abbrev cX4_oldVersions : ByteArray := prog_6_method_12_code
def yX4_oldVersions : MethodName := ⟨RX4, "oldVersions", "()I"⟩
abbrev cX4_oldVersionsSeenBy : ByteArray := prog_6_method_13_code
def yX4_oldVersionsSeenBy : MethodName := ⟨RX4, "oldVersionsSeenBy", "(LRentedMoments$Reader;)I"⟩
abbrev cX4_sumSeenBy : ByteArray := prog_6_method_14_code
def yX4_sumSeenBy : MethodName := ⟨RX4, "sumSeenBy", "(LRentedMoments$Reader;)I"⟩
abbrev cX4_removeUnseen : ByteArray := prog_6_method_15_code
def yX4_removeUnseen : MethodName := ⟨RX4, "removeUnseen", "()I"⟩
abbrev cX4_shareOf : ByteArray := prog_6_method_16_code
def yX4_shareOf : MethodName := ⟨RX4, "shareOf", "(LRentedMoments$Cell;I)I"⟩
abbrev cX4_dueOf : ByteArray := prog_6_method_17_code
def yX4_dueOf : MethodName := ⟨RX4, "dueOf", "(LRentedMoments$Reader;)I"⟩
abbrev cX4_tellDues : ByteArray := prog_6_method_18_code
def yX4_tellDues : MethodName := ⟨RX4, "tellDues", "()V"⟩
abbrev cX4_letTicksPass : ByteArray := prog_6_method_19_code
def yX4_letTicksPass : MethodName := ⟨RX4, "letTicksPass", "(II)V"⟩
abbrev cX4_takeDues : ByteArray := prog_6_method_20_code
def yX4_takeDues : MethodName := ⟨RX4, "takeDues", "()Z"⟩
abbrev cX4_shortenTerms : ByteArray := prog_6_method_21_code
def yX4_shortenTerms : MethodName := ⟨RX4, "shortenTerms", "()Z"⟩
abbrev cX4_hasConflict : ByteArray := prog_6_method_22_code
def yX4_hasConflict : MethodName := ⟨RX4, "hasConflict", "(LRentedMoments$Reader;)Z"⟩
abbrev cX4_skewsOf : ByteArray := prog_6_method_23_code
def yX4_skewsOf : MethodName := ⟨RX4, "skewsOf", "(LRentedMoments$Reader;)I"⟩
abbrev cX4_pairsInSkew : ByteArray := prog_6_method_24_code
def yX4_pairsInSkew : MethodName := ⟨RX4, "pairsInSkew", "()I"⟩
abbrev cX4_oldVersionsWithout : ByteArray := prog_6_method_25_code
def yX4_oldVersionsWithout : MethodName := ⟨RX4, "oldVersionsWithout", "(I)I"⟩
abbrev cX4_land : ByteArray := prog_6_method_26_code
def yX4_land : MethodName := ⟨RX4, "land", "(I)V"⟩
abbrev cX4_noteCommit : ByteArray := prog_6_method_27_code
def yX4_noteCommit : MethodName := ⟨RX4, "noteCommit", "(I)V"⟩
abbrev cX4_pushWrites : ByteArray := prog_6_method_28_code
def yX4_pushWrites : MethodName := ⟨RX4, "pushWrites", "(LRentedMoments$Reader;)V"⟩
def RX5 : String := "RentedMoments$WriteText"
def TX5 : u_T := fun k => match k with
  | 0 => ("RentedMoments$WriteText", "signs", "[C", true)
  | 1 => ("RentedMoments$WriteText", "length", "I", false)
  | 2 => ("RentedMoments$WriteText", "cells", "[I", true)
  | 3 => ("RentedMoments$WriteText", "values", "[I", true)
  | _ => ("RentedMoments$WriteText", "writes", "I", false)
def tyX5 : Nat → FieldType := fun k => match k with
  | 0 => .array .char
  | 1 => .int
  | 2 => .array .int
  | 3 => .array .int
  | _ => .int
abbrev wsX50 : List Cond := u_ws RX5 TX5 5
theorem nmX5 : ∀ a, a < 5 → ∀ b, b < 5 → a ≠ b → (TX5 a).2.1 ≠ (TX5 b).2.1 := by decide +kernel
theorem tyX5_ok : ∀ k, k < 5 → parseFieldDescriptor (TX5 k).2.2.1 = some (tyX5 k) := by decide +kernel
abbrev cX5_init : ByteArray := prog_7_method_1_code
def yX5_init : MethodName := ⟨RX5, "<init>", "()V"⟩
def RX6 : String := "RentedMoments"
def TX6 : u_T := fun k => match k with
  | 0 => ("RentedMoments", "now", "LRentedMoments$State;", true)
  | 1 => ("RentedMoments", "ahead", "LRentedMoments$State;", true)
  | 2 => ("RentedMoments", "snapshot", "LRentedMoments$State;", true)
  | 3 => ("RentedMoments", "history", "LRentedMoments$History;", true)
  | 4 => ("RentedMoments", "text", "LRentedMoments$WriteText;", true)
  | _ => ("RentedMoments", "hasSnapshot", "Z", false)
def tyX6 : Nat → FieldType := fun k => match k with
  | 0 => .object "RentedMoments$State"
  | 1 => .object "RentedMoments$State"
  | 2 => .object "RentedMoments$State"
  | 3 => .object "RentedMoments$History"
  | 4 => .object "RentedMoments$WriteText"
  | _ => .boolean
abbrev wsX60 : List Cond := u_ws RX6 TX6 6
theorem nmX6 : ∀ a, a < 6 → ∀ b, b < 6 → a ≠ b → (TX6 a).2.1 ≠ (TX6 b).2.1 := by decide +kernel
theorem tyX6_ok : ∀ k, k < 6 → parseFieldDescriptor (TX6 k).2.2.1 = some (tyX6 k) := by decide +kernel
abbrev cX6_init : ByteArray := prog_1_method_1_code
def yX6_init : MethodName := ⟨RX6, "<init>", "()V"⟩
abbrev cX6_open : ByteArray := prog_1_method_2_code
def yX6_open : MethodName := ⟨RX6, "open", "(I)I"⟩
abbrev cX6_pay : ByteArray := prog_1_method_3_code
def yX6_pay : MethodName := ⟨RX6, "pay", "(II)I"⟩
abbrev cX6_widow : ByteArray := prog_1_method_4_code
def yX6_widow : MethodName := ⟨RX6, "widow", "(II)I"⟩
abbrev cX6_close : ByteArray := prog_1_method_5_code
def yX6_close : MethodName := ⟨RX6, "close", "(I)I"⟩
abbrev cX6_setRent : ByteArray := prog_1_method_6_code
def yX6_setRent : MethodName := ⟨RX6, "setRent", "(I)I"⟩
abbrev cX6_forbidSkew : ByteArray := prog_1_method_7_code
def yX6_forbidSkew : MethodName := ⟨RX6, "forbidSkew", "(Z)I"⟩
abbrev cX6_tick : ByteArray := prog_1_method_8_code
def yX6_tick : MethodName := ⟨RX6, "tick", "(I)I"⟩
abbrev cX6_read : ByteArray := prog_1_method_9_code
def yX6_read : MethodName := ⟨RX6, "read", "(II)I"⟩
abbrev cX6_write : ByteArray := prog_1_method_10_code
def yX6_write : MethodName := ⟨RX6, "write", "(III)I"⟩
abbrev cX6_commit : ByteArray := prog_1_method_11_code
def yX6_commit : MethodName := ⟨RX6, "commit", "(I)I"⟩
abbrev cX6_undo : ByteArray := prog_1_method_15_code
def yX6_undo : MethodName := ⟨RX6, "undo", "()I"⟩
abbrev cX6_cell : ByteArray := prog_1_method_18_code
def yX6_cell : MethodName := ⟨RX6, "cell", "(II)I"⟩
abbrev cX6_version : ByteArray := prog_1_method_19_code
def yX6_version : MethodName := ⟨RX6, "version", "(III)I"⟩
abbrev cX6_reader : ByteArray := prog_1_method_20_code
def yX6_reader : MethodName := ⟨RX6, "reader", "(II)I"⟩
abbrev cX6_committed : ByteArray := prog_1_method_22_code
def yX6_committed : MethodName := ⟨RX6, "committed", "(II)I"⟩
abbrev cX6_count : ByteArray := prog_1_method_23_code
def yX6_count : MethodName := ⟨RX6, "count", "(I)I"⟩
abbrev cX6_isCell : ByteArray := prog_1_method_24_code
def yX6_isCell : MethodName := ⟨RX6, "isCell", "(I)Z"⟩
def RX7 : String := "RentedMomentsModel"
def TX7 : u_T := fun k => match k with
  | _ => ("", "", "", false)
def tyX7 : Nat → FieldType := fun k => match k with
  | _ => .int
abbrev wsX70 : List Cond := u_ws RX7 TX7 0
theorem nmX7 : ∀ a, a < 0 → ∀ b, b < 0 → a ≠ b → (TX7 a).2.1 ≠ (TX7 b).2.1 := by decide +kernel
theorem tyX7_ok : ∀ k, k < 0 → parseFieldDescriptor (TX7 k).2.2.1 = some (tyX7 k) := by decide +kernel
def RJ6 : String := "java/lang/Integer"
def TJ6 : u_T := fun k => match k with
  | _ => ("", "", "", false)
def tyJ6 : Nat → FieldType := fun k => match k with
  | _ => .int
abbrev wsJ60 : List Cond := u_ws RJ6 TJ6 0
theorem nmJ6 : ∀ a, a < 0 → ∀ b, b < 0 → a ≠ b → (TJ6 a).2.1 ≠ (TJ6 b).2.1 := by decide +kernel
theorem tyJ6_ok : ∀ k, k < 0 → parseFieldDescriptor (TJ6 k).2.2.1 = some (tyJ6 k) := by decide +kernel
abbrev cJ6_bitCount_0f7a4 : ByteArray := prog_10_method_49_code
def yJ6_bitCount_0f7a4 : MethodName := ⟨RJ6, "bitCount", "(I)I"⟩
def RJ10 : String := "java/lang/System"
def TJ10 : u_T := fun k => match k with
  | _ => ("", "", "", false)
def tyJ10 : Nat → FieldType := fun k => match k with
  | _ => .int
abbrev wsJ100 : List Cond := u_ws RJ10 TJ10 0
theorem nmJ10 : ∀ a, a < 0 → ∀ b, b < 0 → a ≠ b → (TJ10 a).2.1 ≠ (TJ10 b).2.1 := by decide +kernel
theorem tyJ10_ok : ∀ k, k < 0 → parseFieldDescriptor (TJ10 k).2.2.1 = some (tyJ10 k) := by decide +kernel
def RL : String := "RentedMomentsLaw"
abbrev cL_cell : ByteArray := method_2_code
def yL_cell : MethodName := ⟨RL, "cell", "([II)I"⟩
abbrev cL_up : ByteArray := method_3_code
def yL_up : MethodName := ⟨RL, "up", "(II)I"⟩
abbrev cL_view : ByteArray := method_4_code
def yL_view : MethodName := ⟨RL, "view", "(LRentedMoments;)J"⟩
abbrev cL_any : ByteArray := method_5_code
def yL_any : MethodName := ⟨RL, "any", "(LRentedMoments;II)I"⟩
abbrev cL_turn : ByteArray := method_6_code
def yL_turn : MethodName := ⟨RL, "turn", "(LRentedMoments;III)I"⟩
abbrev cL_seen : ByteArray := method_7_code
def yL_seen : MethodName := ⟨RL, "seen", "(LRentedMoments;I)I"⟩
abbrev cL_areVersions : ByteArray := method_8_code
def yL_areVersions : MethodName := ⟨RL, "areVersions", "(LRentedMoments;)Z"⟩
abbrev cL_coins : ByteArray := method_9_code
def yL_coins : MethodName := ⟨RL, "coins", "(LRentedMoments;J)J"⟩
abbrev cL_putBy : ByteArray := method_10_code
def yL_putBy : MethodName := ⟨RL, "putBy", "(IIII)J"⟩
abbrev cL_isUndone : ByteArray := method_11_code
def yL_isUndone : MethodName := ⟨RL, "isUndone", "(LRentedMoments;IIIIJ)Z"⟩
abbrev cL_law : ByteArray := code
def yL_law : MethodName := ⟨RL, "law", "([I)Z"⟩
abbrev vwCl : List vw_C := [(RX0, TX0, 3), (RX1, TX1, 6), (RX2, TX2, 2), (RX3, TX3, 9), (RX4, TX4, 11), (RX5, TX5, 5), (RX6, TX6, 6)]
end
section
theorem dX0_init_0 : decode cX0_init 0 = .ok (.aload_n 0, 1) := by decide +kernel
theorem dX0_init_1 : decode cX0_init 1 = .ok (.invokespecial 3, 3) := by decide +kernel
theorem dX0_init_4 : decode cX0_init 4 = .ok (.aload_n 0, 1) := by decide +kernel
theorem dX0_init_5 : decode cX0_init 5 = .ok (.bipush 10, 2) := by decide +kernel
theorem dX0_init_7 : decode cX0_init 7 = .ok (.newarray .int, 2) := by decide +kernel
theorem dX0_init_9 : decode cX0_init 9 = .ok (.putfield 9, 3) := by decide +kernel
theorem dX0_init_12 : decode cX0_init 12 = .ok (.aload_n 0, 1) := by decide +kernel
theorem dX0_init_13 : decode cX0_init 13 = .ok (.bipush 10, 2) := by decide +kernel
theorem dX0_init_15 : decode cX0_init 15 = .ok (.newarray .int, 2) := by decide +kernel
theorem dX0_init_17 : decode cX0_init 17 = .ok (.putfield 15, 3) := by decide +kernel
theorem dX0_init_20 : decode cX0_init 20 = .ok (.aload_n 0, 1) := by decide +kernel
theorem dX0_init_21 : decode cX0_init 21 = .ok (.iconst 1, 1) := by decide +kernel
theorem dX0_init_22 : decode cX0_init 22 = .ok (.putfield 18, 3) := by decide +kernel
theorem dX0_init_25 : decode cX0_init 25 = .ok (.return_, 1) := by decide +kernel
theorem dX0_copyFrom_0 : decode cX0_copyFrom 0 = .ok (.aload_n 1, 1) := by decide +kernel
theorem dX0_copyFrom_1 : decode cX0_copyFrom 1 = .ok (.getfield 9, 3) := by decide +kernel
theorem dX0_copyFrom_4 : decode cX0_copyFrom 4 = .ok (.iconst 0, 1) := by decide +kernel
theorem dX0_copyFrom_5 : decode cX0_copyFrom 5 = .ok (.aload_n 0, 1) := by decide +kernel
theorem dX0_copyFrom_6 : decode cX0_copyFrom 6 = .ok (.getfield 9, 3) := by decide +kernel
theorem dX0_copyFrom_9 : decode cX0_copyFrom 9 = .ok (.iconst 0, 1) := by decide +kernel
theorem dX0_copyFrom_10 : decode cX0_copyFrom 10 = .ok (.bipush 10, 2) := by decide +kernel
theorem dX0_copyFrom_12 : decode cX0_copyFrom 12 = .ok (.invokestatic 22, 3) := by decide +kernel
theorem dX0_copyFrom_15 : decode cX0_copyFrom 15 = .ok (.aload_n 1, 1) := by decide +kernel
theorem dX0_copyFrom_16 : decode cX0_copyFrom 16 = .ok (.getfield 15, 3) := by decide +kernel
theorem dX0_copyFrom_19 : decode cX0_copyFrom 19 = .ok (.iconst 0, 1) := by decide +kernel
theorem dX0_copyFrom_20 : decode cX0_copyFrom 20 = .ok (.aload_n 0, 1) := by decide +kernel
theorem dX0_copyFrom_21 : decode cX0_copyFrom 21 = .ok (.getfield 15, 3) := by decide +kernel
theorem dX0_copyFrom_24 : decode cX0_copyFrom 24 = .ok (.iconst 0, 1) := by decide +kernel
theorem dX0_copyFrom_25 : decode cX0_copyFrom 25 = .ok (.bipush 10, 2) := by decide +kernel
theorem dX0_copyFrom_27 : decode cX0_copyFrom 27 = .ok (.invokestatic 22, 3) := by decide +kernel
theorem dX0_copyFrom_30 : decode cX0_copyFrom 30 = .ok (.aload_n 0, 1) := by decide +kernel
theorem dX0_copyFrom_31 : decode cX0_copyFrom 31 = .ok (.aload_n 1, 1) := by decide +kernel
theorem dX0_copyFrom_32 : decode cX0_copyFrom 32 = .ok (.getfield 18, 3) := by decide +kernel
theorem dX0_copyFrom_35 : decode cX0_copyFrom 35 = .ok (.putfield 18, 3) := by decide +kernel
theorem dX0_copyFrom_38 : decode cX0_copyFrom 38 = .ok (.return_, 1) := by decide +kernel
theorem dX0_placeSeenAt_0 : decode cX0_placeSeenAt 0 = .ok (.iconst 0, 1) := by decide +kernel
theorem dX0_placeSeenAt_1 : decode cX0_placeSeenAt 1 = .ok (.istore_n 2, 1) := by decide +kernel
theorem dX0_placeSeenAt_2 : decode cX0_placeSeenAt 2 = .ok (.iload_n 2, 1) := by decide +kernel
theorem dX0_placeSeenAt_3 : decode cX0_placeSeenAt 3 = .ok (.aload_n 0, 1) := by decide +kernel
theorem dX0_placeSeenAt_4 : decode cX0_placeSeenAt 4 = .ok (.getfield 18, 3) := by decide +kernel
theorem dX0_placeSeenAt_7 : decode cX0_placeSeenAt 7 = .ok (.if_icmp .ge 21, 3) := by decide +kernel
theorem dX0_placeSeenAt_10 : decode cX0_placeSeenAt 10 = .ok (.aload_n 0, 1) := by decide +kernel
theorem dX0_placeSeenAt_11 : decode cX0_placeSeenAt 11 = .ok (.getfield 15, 3) := by decide +kernel
theorem dX0_placeSeenAt_14 : decode cX0_placeSeenAt 14 = .ok (.iload_n 2, 1) := by decide +kernel
theorem dX0_placeSeenAt_15 : decode cX0_placeSeenAt 15 = .ok (.iaload, 1) := by decide +kernel
theorem dX0_placeSeenAt_16 : decode cX0_placeSeenAt 16 = .ok (.iload_n 1, 1) := by decide +kernel
theorem dX0_placeSeenAt_17 : decode cX0_placeSeenAt 17 = .ok (.if_icmp .gt 5, 3) := by decide +kernel
theorem dX0_placeSeenAt_20 : decode cX0_placeSeenAt 20 = .ok (.iload_n 2, 1) := by decide +kernel
theorem dX0_placeSeenAt_21 : decode cX0_placeSeenAt 21 = .ok (.ireturn, 1) := by decide +kernel
theorem dX0_placeSeenAt_22 : decode cX0_placeSeenAt 22 = .ok (.iinc 2 1, 3) := by decide +kernel
theorem dX0_placeSeenAt_25 : decode cX0_placeSeenAt 25 = .ok (.goto (-23), 3) := by decide +kernel
theorem dX0_placeSeenAt_28 : decode cX0_placeSeenAt 28 = .ok (.iconst (-1), 1) := by decide +kernel
theorem dX0_placeSeenAt_29 : decode cX0_placeSeenAt 29 = .ok (.ireturn, 1) := by decide +kernel
theorem dX0_valueSeenAt_0 : decode cX0_valueSeenAt 0 = .ok (.aload_n 0, 1) := by decide +kernel
theorem dX0_valueSeenAt_1 : decode cX0_valueSeenAt 1 = .ok (.iload_n 1, 1) := by decide +kernel
theorem dX0_valueSeenAt_2 : decode cX0_valueSeenAt 2 = .ok (.invokevirtual 28, 3) := by decide +kernel
theorem dX0_valueSeenAt_5 : decode cX0_valueSeenAt 5 = .ok (.istore_n 2, 1) := by decide +kernel
theorem dX0_valueSeenAt_6 : decode cX0_valueSeenAt 6 = .ok (.iload_n 2, 1) := by decide +kernel
theorem dX0_valueSeenAt_7 : decode cX0_valueSeenAt 7 = .ok (.iconst (-1), 1) := by decide +kernel
theorem dX0_valueSeenAt_8 : decode cX0_valueSeenAt 8 = .ok (.if_icmp .ne 7, 3) := by decide +kernel
theorem dX0_valueSeenAt_11 : decode cX0_valueSeenAt 11 = .ok (.iconst 0, 1) := by decide +kernel
theorem dX0_valueSeenAt_12 : decode cX0_valueSeenAt 12 = .ok (.goto 9, 3) := by decide +kernel
theorem dX0_valueSeenAt_15 : decode cX0_valueSeenAt 15 = .ok (.aload_n 0, 1) := by decide +kernel
theorem dX0_valueSeenAt_16 : decode cX0_valueSeenAt 16 = .ok (.getfield 9, 3) := by decide +kernel
theorem dX0_valueSeenAt_19 : decode cX0_valueSeenAt 19 = .ok (.iload_n 2, 1) := by decide +kernel
theorem dX0_valueSeenAt_20 : decode cX0_valueSeenAt 20 = .ok (.iaload, 1) := by decide +kernel
theorem dX0_valueSeenAt_21 : decode cX0_valueSeenAt 21 = .ok (.ireturn, 1) := by decide +kernel
theorem dX0_push_0 : decode cX0_push 0 = .ok (.aload_n 0, 1) := by decide +kernel
theorem dX0_push_1 : decode cX0_push 1 = .ok (.getfield 18, 3) := by decide +kernel
theorem dX0_push_4 : decode cX0_push 4 = .ok (.bipush 10, 2) := by decide +kernel
theorem dX0_push_6 : decode cX0_push 6 = .ok (.if_icmp .ge 13, 3) := by decide +kernel
theorem dX0_push_9 : decode cX0_push 9 = .ok (.aload_n 0, 1) := by decide +kernel
theorem dX0_push_10 : decode cX0_push 10 = .ok (.dup, 1) := by decide +kernel
theorem dX0_push_11 : decode cX0_push 11 = .ok (.getfield 18, 3) := by decide +kernel
theorem dX0_push_14 : decode cX0_push 14 = .ok (.iconst 1, 1) := by decide +kernel
theorem dX0_push_15 : decode cX0_push 15 = .ok (.iadd, 1) := by decide +kernel
theorem dX0_push_16 : decode cX0_push 16 = .ok (.putfield 18, 3) := by decide +kernel
theorem dX0_push_19 : decode cX0_push 19 = .ok (.aload_n 0, 1) := by decide +kernel
theorem dX0_push_20 : decode cX0_push 20 = .ok (.getfield 9, 3) := by decide +kernel
theorem dX0_push_23 : decode cX0_push 23 = .ok (.iconst 0, 1) := by decide +kernel
theorem dX0_push_24 : decode cX0_push 24 = .ok (.aload_n 0, 1) := by decide +kernel
theorem dX0_push_25 : decode cX0_push 25 = .ok (.getfield 9, 3) := by decide +kernel
theorem dX0_push_28 : decode cX0_push 28 = .ok (.iconst 1, 1) := by decide +kernel
theorem dX0_push_29 : decode cX0_push 29 = .ok (.aload_n 0, 1) := by decide +kernel
theorem dX0_push_30 : decode cX0_push 30 = .ok (.getfield 18, 3) := by decide +kernel
theorem dX0_push_33 : decode cX0_push 33 = .ok (.iconst 1, 1) := by decide +kernel
theorem dX0_push_34 : decode cX0_push 34 = .ok (.isub, 1) := by decide +kernel
theorem dX0_push_35 : decode cX0_push 35 = .ok (.invokestatic 22, 3) := by decide +kernel
theorem dX0_push_38 : decode cX0_push 38 = .ok (.aload_n 0, 1) := by decide +kernel
theorem dX0_push_39 : decode cX0_push 39 = .ok (.getfield 15, 3) := by decide +kernel
theorem dX0_push_42 : decode cX0_push 42 = .ok (.iconst 0, 1) := by decide +kernel
theorem dX0_push_43 : decode cX0_push 43 = .ok (.aload_n 0, 1) := by decide +kernel
theorem dX0_push_44 : decode cX0_push 44 = .ok (.getfield 15, 3) := by decide +kernel
theorem dX0_push_47 : decode cX0_push 47 = .ok (.iconst 1, 1) := by decide +kernel
theorem dX0_push_48 : decode cX0_push 48 = .ok (.aload_n 0, 1) := by decide +kernel
theorem dX0_push_49 : decode cX0_push 49 = .ok (.getfield 18, 3) := by decide +kernel
theorem dX0_push_52 : decode cX0_push 52 = .ok (.iconst 1, 1) := by decide +kernel
theorem dX0_push_53 : decode cX0_push 53 = .ok (.isub, 1) := by decide +kernel
theorem dX0_push_54 : decode cX0_push 54 = .ok (.invokestatic 22, 3) := by decide +kernel
theorem dX0_push_57 : decode cX0_push 57 = .ok (.aload_n 0, 1) := by decide +kernel
theorem dX0_push_58 : decode cX0_push 58 = .ok (.getfield 9, 3) := by decide +kernel
theorem dX0_push_61 : decode cX0_push 61 = .ok (.iconst 0, 1) := by decide +kernel
theorem dX0_push_62 : decode cX0_push 62 = .ok (.iload_n 1, 1) := by decide +kernel
theorem dX0_push_63 : decode cX0_push 63 = .ok (.iastore, 1) := by decide +kernel
theorem dX0_push_64 : decode cX0_push 64 = .ok (.aload_n 0, 1) := by decide +kernel
theorem dX0_push_65 : decode cX0_push 65 = .ok (.getfield 15, 3) := by decide +kernel
theorem dX0_push_68 : decode cX0_push 68 = .ok (.iconst 0, 1) := by decide +kernel
theorem dX0_push_69 : decode cX0_push 69 = .ok (.iload_n 2, 1) := by decide +kernel
theorem dX0_push_70 : decode cX0_push 70 = .ok (.iastore, 1) := by decide +kernel
theorem dX0_push_71 : decode cX0_push 71 = .ok (.return_, 1) := by decide +kernel
theorem dX0_retainOld_0 : decode cX0_retainOld 0 = .ok (.iconst 1, 1) := by decide +kernel
theorem dX0_retainOld_1 : decode cX0_retainOld 1 = .ok (.istore_n 2, 1) := by decide +kernel
theorem dX0_retainOld_2 : decode cX0_retainOld 2 = .ok (.iconst 1, 1) := by decide +kernel
theorem dX0_retainOld_3 : decode cX0_retainOld 3 = .ok (.istore_n 3, 1) := by decide +kernel
theorem dX0_retainOld_4 : decode cX0_retainOld 4 = .ok (.iload_n 3, 1) := by decide +kernel
theorem dX0_retainOld_5 : decode cX0_retainOld 5 = .ok (.aload_n 0, 1) := by decide +kernel
theorem dX0_retainOld_6 : decode cX0_retainOld 6 = .ok (.getfield 18, 3) := by decide +kernel
theorem dX0_retainOld_9 : decode cX0_retainOld 9 = .ok (.if_icmp .ge 44, 3) := by decide +kernel
theorem dX0_retainOld_12 : decode cX0_retainOld 12 = .ok (.iload_n 1, 1) := by decide +kernel
theorem dX0_retainOld_13 : decode cX0_retainOld 13 = .ok (.iload_n 3, 1) := by decide +kernel
theorem dX0_retainOld_14 : decode cX0_retainOld 14 = .ok (.ishr, 1) := by decide +kernel
theorem dX0_retainOld_15 : decode cX0_retainOld 15 = .ok (.iconst 1, 1) := by decide +kernel
theorem dX0_retainOld_16 : decode cX0_retainOld 16 = .ok (.iand, 1) := by decide +kernel
theorem dX0_retainOld_17 : decode cX0_retainOld 17 = .ok (.ifCond .eq 30, 3) := by decide +kernel
theorem dX0_retainOld_20 : decode cX0_retainOld 20 = .ok (.aload_n 0, 1) := by decide +kernel
theorem dX0_retainOld_21 : decode cX0_retainOld 21 = .ok (.getfield 9, 3) := by decide +kernel
theorem dX0_retainOld_24 : decode cX0_retainOld 24 = .ok (.iload_n 2, 1) := by decide +kernel
theorem dX0_retainOld_25 : decode cX0_retainOld 25 = .ok (.aload_n 0, 1) := by decide +kernel
theorem dX0_retainOld_26 : decode cX0_retainOld 26 = .ok (.getfield 9, 3) := by decide +kernel
theorem dX0_retainOld_29 : decode cX0_retainOld 29 = .ok (.iload_n 3, 1) := by decide +kernel
theorem dX0_retainOld_30 : decode cX0_retainOld 30 = .ok (.iaload, 1) := by decide +kernel
theorem dX0_retainOld_31 : decode cX0_retainOld 31 = .ok (.iastore, 1) := by decide +kernel
theorem dX0_retainOld_32 : decode cX0_retainOld 32 = .ok (.aload_n 0, 1) := by decide +kernel
theorem dX0_retainOld_33 : decode cX0_retainOld 33 = .ok (.getfield 15, 3) := by decide +kernel
theorem dX0_retainOld_36 : decode cX0_retainOld 36 = .ok (.iload_n 2, 1) := by decide +kernel
theorem dX0_retainOld_37 : decode cX0_retainOld 37 = .ok (.aload_n 0, 1) := by decide +kernel
theorem dX0_retainOld_38 : decode cX0_retainOld 38 = .ok (.getfield 15, 3) := by decide +kernel
theorem dX0_retainOld_41 : decode cX0_retainOld 41 = .ok (.iload_n 3, 1) := by decide +kernel
theorem dX0_retainOld_42 : decode cX0_retainOld 42 = .ok (.iaload, 1) := by decide +kernel
theorem dX0_retainOld_43 : decode cX0_retainOld 43 = .ok (.iastore, 1) := by decide +kernel
theorem dX0_retainOld_44 : decode cX0_retainOld 44 = .ok (.iinc 2 1, 3) := by decide +kernel
theorem dX0_retainOld_47 : decode cX0_retainOld 47 = .ok (.iinc 3 1, 3) := by decide +kernel
theorem dX0_retainOld_50 : decode cX0_retainOld 50 = .ok (.goto (-46), 3) := by decide +kernel
theorem dX0_retainOld_53 : decode cX0_retainOld 53 = .ok (.aload_n 0, 1) := by decide +kernel
theorem dX0_retainOld_54 : decode cX0_retainOld 54 = .ok (.getfield 18, 3) := by decide +kernel
theorem dX0_retainOld_57 : decode cX0_retainOld 57 = .ok (.iload_n 2, 1) := by decide +kernel
theorem dX0_retainOld_58 : decode cX0_retainOld 58 = .ok (.isub, 1) := by decide +kernel
theorem dX0_retainOld_59 : decode cX0_retainOld 59 = .ok (.istore_n 3, 1) := by decide +kernel
theorem dX0_retainOld_60 : decode cX0_retainOld 60 = .ok (.aload_n 0, 1) := by decide +kernel
theorem dX0_retainOld_61 : decode cX0_retainOld 61 = .ok (.iload_n 2, 1) := by decide +kernel
theorem dX0_retainOld_62 : decode cX0_retainOld 62 = .ok (.putfield 18, 3) := by decide +kernel
theorem dX0_retainOld_65 : decode cX0_retainOld 65 = .ok (.iload_n 3, 1) := by decide +kernel
theorem dX0_retainOld_66 : decode cX0_retainOld 66 = .ok (.ireturn, 1) := by decide +kernel
theorem dX1_init_0 : decode cX1_init 0 = .ok (.aload_n 0, 1) := by decide +kernel
theorem dX1_init_1 : decode cX1_init 1 = .ok (.invokespecial 1, 3) := by decide +kernel
theorem dX1_init_4 : decode cX1_init 4 = .ok (.return_, 1) := by decide +kernel
theorem dX1_copyFrom_0 : decode cX1_copyFrom 0 = .ok (.aload_n 0, 1) := by decide +kernel
theorem dX1_copyFrom_1 : decode cX1_copyFrom 1 = .ok (.aload_n 1, 1) := by decide +kernel
theorem dX1_copyFrom_2 : decode cX1_copyFrom 2 = .ok (.getfield 7, 3) := by decide +kernel
theorem dX1_copyFrom_5 : decode cX1_copyFrom 5 = .ok (.putfield 7, 3) := by decide +kernel
theorem dX1_copyFrom_8 : decode cX1_copyFrom 8 = .ok (.aload_n 0, 1) := by decide +kernel
theorem dX1_copyFrom_9 : decode cX1_copyFrom 9 = .ok (.aload_n 1, 1) := by decide +kernel
theorem dX1_copyFrom_10 : decode cX1_copyFrom 10 = .ok (.getfield 13, 3) := by decide +kernel
theorem dX1_copyFrom_13 : decode cX1_copyFrom 13 = .ok (.putfield 13, 3) := by decide +kernel
theorem dX1_copyFrom_16 : decode cX1_copyFrom 16 = .ok (.aload_n 0, 1) := by decide +kernel
theorem dX1_copyFrom_17 : decode cX1_copyFrom 17 = .ok (.aload_n 1, 1) := by decide +kernel
theorem dX1_copyFrom_18 : decode cX1_copyFrom 18 = .ok (.getfield 16, 3) := by decide +kernel
theorem dX1_copyFrom_21 : decode cX1_copyFrom 21 = .ok (.putfield 16, 3) := by decide +kernel
theorem dX1_copyFrom_24 : decode cX1_copyFrom 24 = .ok (.aload_n 0, 1) := by decide +kernel
theorem dX1_copyFrom_25 : decode cX1_copyFrom 25 = .ok (.aload_n 1, 1) := by decide +kernel
theorem dX1_copyFrom_26 : decode cX1_copyFrom 26 = .ok (.getfield 19, 3) := by decide +kernel
theorem dX1_copyFrom_29 : decode cX1_copyFrom 29 = .ok (.putfield 19, 3) := by decide +kernel
theorem dX1_copyFrom_32 : decode cX1_copyFrom 32 = .ok (.aload_n 0, 1) := by decide +kernel
theorem dX1_copyFrom_33 : decode cX1_copyFrom 33 = .ok (.aload_n 1, 1) := by decide +kernel
theorem dX1_copyFrom_34 : decode cX1_copyFrom 34 = .ok (.getfield 22, 3) := by decide +kernel
theorem dX1_copyFrom_37 : decode cX1_copyFrom 37 = .ok (.putfield 22, 3) := by decide +kernel
theorem dX1_copyFrom_40 : decode cX1_copyFrom 40 = .ok (.aload_n 0, 1) := by decide +kernel
theorem dX1_copyFrom_41 : decode cX1_copyFrom 41 = .ok (.aload_n 1, 1) := by decide +kernel
theorem dX1_copyFrom_42 : decode cX1_copyFrom 42 = .ok (.getfield 25, 3) := by decide +kernel
theorem dX1_copyFrom_45 : decode cX1_copyFrom 45 = .ok (.putfield 25, 3) := by decide +kernel
theorem dX1_copyFrom_48 : decode cX1_copyFrom 48 = .ok (.return_, 1) := by decide +kernel
theorem dX1_isInSkewWithLater_0 : decode cX1_isInSkewWithLater 0 = .ok (.aload_n 1, 1) := by decide +kernel
theorem dX1_isInSkewWithLater_1 : decode cX1_isInSkewWithLater 1 = .ok (.getfield 28, 3) := by decide +kernel
theorem dX1_isInSkewWithLater_4 : decode cX1_isInSkewWithLater 4 = .ok (.aload_n 0, 1) := by decide +kernel
theorem dX1_isInSkewWithLater_5 : decode cX1_isInSkewWithLater 5 = .ok (.getfield 16, 3) := by decide +kernel
theorem dX1_isInSkewWithLater_8 : decode cX1_isInSkewWithLater 8 = .ok (.if_icmp .ge 43, 3) := by decide +kernel
theorem dX1_isInSkewWithLater_11 : decode cX1_isInSkewWithLater 11 = .ok (.aload_n 1, 1) := by decide +kernel
theorem dX1_isInSkewWithLater_12 : decode cX1_isInSkewWithLater 12 = .ok (.getfield 33, 3) := by decide +kernel
theorem dX1_isInSkewWithLater_15 : decode cX1_isInSkewWithLater 15 = .ok (.aload_n 0, 1) := by decide +kernel
theorem dX1_isInSkewWithLater_16 : decode cX1_isInSkewWithLater 16 = .ok (.getfield 19, 3) := by decide +kernel
theorem dX1_isInSkewWithLater_19 : decode cX1_isInSkewWithLater 19 = .ok (.iand, 1) := by decide +kernel
theorem dX1_isInSkewWithLater_20 : decode cX1_isInSkewWithLater 20 = .ok (.ifCond .eq 31, 3) := by decide +kernel
theorem dX1_isInSkewWithLater_23 : decode cX1_isInSkewWithLater 23 = .ok (.aload_n 0, 1) := by decide +kernel
theorem dX1_isInSkewWithLater_24 : decode cX1_isInSkewWithLater 24 = .ok (.getfield 22, 3) := by decide +kernel
theorem dX1_isInSkewWithLater_27 : decode cX1_isInSkewWithLater 27 = .ok (.aload_n 1, 1) := by decide +kernel
theorem dX1_isInSkewWithLater_28 : decode cX1_isInSkewWithLater 28 = .ok (.getfield 34, 3) := by decide +kernel
theorem dX1_isInSkewWithLater_31 : decode cX1_isInSkewWithLater 31 = .ok (.iand, 1) := by decide +kernel
theorem dX1_isInSkewWithLater_32 : decode cX1_isInSkewWithLater 32 = .ok (.ifCond .eq 19, 3) := by decide +kernel
theorem dX1_isInSkewWithLater_35 : decode cX1_isInSkewWithLater 35 = .ok (.aload_n 0, 1) := by decide +kernel
theorem dX1_isInSkewWithLater_36 : decode cX1_isInSkewWithLater 36 = .ok (.getfield 19, 3) := by decide +kernel
theorem dX1_isInSkewWithLater_39 : decode cX1_isInSkewWithLater 39 = .ok (.aload_n 1, 1) := by decide +kernel
theorem dX1_isInSkewWithLater_40 : decode cX1_isInSkewWithLater 40 = .ok (.getfield 34, 3) := by decide +kernel
theorem dX1_isInSkewWithLater_43 : decode cX1_isInSkewWithLater 43 = .ok (.iand, 1) := by decide +kernel
theorem dX1_isInSkewWithLater_44 : decode cX1_isInSkewWithLater 44 = .ok (.ifCond .ne 7, 3) := by decide +kernel
theorem dX1_isInSkewWithLater_47 : decode cX1_isInSkewWithLater 47 = .ok (.iconst 1, 1) := by decide +kernel
theorem dX1_isInSkewWithLater_48 : decode cX1_isInSkewWithLater 48 = .ok (.goto 4, 3) := by decide +kernel
theorem dX1_isInSkewWithLater_51 : decode cX1_isInSkewWithLater 51 = .ok (.iconst 0, 1) := by decide +kernel
theorem dX1_isInSkewWithLater_52 : decode cX1_isInSkewWithLater 52 = .ok (.ireturn, 1) := by decide +kernel
theorem dX2_init_0 : decode cX2_init 0 = .ok (.aload_n 0, 1) := by decide +kernel
theorem dX2_init_1 : decode cX2_init 1 = .ok (.invokespecial 3, 3) := by decide +kernel
theorem dX2_init_4 : decode cX2_init 4 = .ok (.aload_n 0, 1) := by decide +kernel
theorem dX2_init_5 : decode cX2_init 5 = .ok (.iconst 4, 1) := by decide +kernel
theorem dX2_init_6 : decode cX2_init 6 = .ok (.anewarray 9, 3) := by decide +kernel
theorem dX2_init_9 : decode cX2_init 9 = .ok (.putfield 11, 3) := by decide +kernel
theorem dX2_init_12 : decode cX2_init 12 = .ok (.iconst 0, 1) := by decide +kernel
theorem dX2_init_13 : decode cX2_init 13 = .ok (.istore_n 1, 1) := by decide +kernel
theorem dX2_init_14 : decode cX2_init 14 = .ok (.iload_n 1, 1) := by decide +kernel
theorem dX2_init_15 : decode cX2_init 15 = .ok (.iconst 4, 1) := by decide +kernel
theorem dX2_init_16 : decode cX2_init 16 = .ok (.if_icmp .ge 22, 3) := by decide +kernel
theorem dX2_init_19 : decode cX2_init 19 = .ok (.aload_n 0, 1) := by decide +kernel
theorem dX2_init_20 : decode cX2_init 20 = .ok (.getfield 11, 3) := by decide +kernel
theorem dX2_init_23 : decode cX2_init 23 = .ok (.iload_n 1, 1) := by decide +kernel
theorem dX2_init_24 : decode cX2_init 24 = .ok (.new 9, 3) := by decide +kernel
theorem dX2_init_27 : decode cX2_init 27 = .ok (.dup, 1) := by decide +kernel
theorem dX2_init_28 : decode cX2_init 28 = .ok (.invokespecial 17, 3) := by decide +kernel
theorem dX2_init_31 : decode cX2_init 31 = .ok (.aastore, 1) := by decide +kernel
theorem dX2_init_32 : decode cX2_init 32 = .ok (.iinc 1 1, 3) := by decide +kernel
theorem dX2_init_35 : decode cX2_init 35 = .ok (.goto (-21), 3) := by decide +kernel
theorem dX2_init_38 : decode cX2_init 38 = .ok (.return_, 1) := by decide +kernel
theorem dX2_record_0 : decode cX2_record 0 = .ok (.aload_n 0, 1) := by decide +kernel
theorem dX2_record_1 : decode cX2_record 1 = .ok (.getfield 18, 3) := by decide +kernel
theorem dX2_record_4 : decode cX2_record 4 = .ok (.iconst 4, 1) := by decide +kernel
theorem dX2_record_5 : decode cX2_record 5 = .ok (.if_icmp .lt 7, 3) := by decide +kernel
theorem dX2_record_8 : decode cX2_record 8 = .ok (.aload_n 0, 1) := by decide +kernel
theorem dX2_record_9 : decode cX2_record 9 = .ok (.invokevirtual 22, 3) := by decide +kernel
theorem dX2_record_12 : decode cX2_record 12 = .ok (.aload_n 0, 1) := by decide +kernel
theorem dX2_record_13 : decode cX2_record 13 = .ok (.getfield 11, 3) := by decide +kernel
theorem dX2_record_16 : decode cX2_record 16 = .ok (.aload_n 0, 1) := by decide +kernel
theorem dX2_record_17 : decode cX2_record 17 = .ok (.getfield 18, 3) := by decide +kernel
theorem dX2_record_20 : decode cX2_record 20 = .ok (.aaload, 1) := by decide +kernel
theorem dX2_record_21 : decode cX2_record 21 = .ok (.aload_n 1, 1) := by decide +kernel
theorem dX2_record_22 : decode cX2_record 22 = .ok (.invokevirtual 25, 3) := by decide +kernel
theorem dX2_record_25 : decode cX2_record 25 = .ok (.aload_n 0, 1) := by decide +kernel
theorem dX2_record_26 : decode cX2_record 26 = .ok (.dup, 1) := by decide +kernel
theorem dX2_record_27 : decode cX2_record 27 = .ok (.getfield 18, 3) := by decide +kernel
theorem dX2_record_30 : decode cX2_record 30 = .ok (.iconst 1, 1) := by decide +kernel
theorem dX2_record_31 : decode cX2_record 31 = .ok (.iadd, 1) := by decide +kernel
theorem dX2_record_32 : decode cX2_record 32 = .ok (.putfield 18, 3) := by decide +kernel
theorem dX2_record_35 : decode cX2_record 35 = .ok (.return_, 1) := by decide +kernel
theorem dX2_dropOldest_0 : decode cX2_dropOldest 0 = .ok (.aload_n 0, 1) := by decide +kernel
theorem dX2_dropOldest_1 : decode cX2_dropOldest 1 = .ok (.getfield 11, 3) := by decide +kernel
theorem dX2_dropOldest_4 : decode cX2_dropOldest 4 = .ok (.iconst 0, 1) := by decide +kernel
theorem dX2_dropOldest_5 : decode cX2_dropOldest 5 = .ok (.aaload, 1) := by decide +kernel
theorem dX2_dropOldest_6 : decode cX2_dropOldest 6 = .ok (.astore_n 1, 1) := by decide +kernel
theorem dX2_dropOldest_7 : decode cX2_dropOldest 7 = .ok (.iconst 1, 1) := by decide +kernel
theorem dX2_dropOldest_8 : decode cX2_dropOldest 8 = .ok (.istore_n 2, 1) := by decide +kernel
theorem dX2_dropOldest_9 : decode cX2_dropOldest 9 = .ok (.iload_n 2, 1) := by decide +kernel
theorem dX2_dropOldest_10 : decode cX2_dropOldest 10 = .ok (.iconst 4, 1) := by decide +kernel
theorem dX2_dropOldest_11 : decode cX2_dropOldest 11 = .ok (.if_icmp .ge 23, 3) := by decide +kernel
theorem dX2_dropOldest_14 : decode cX2_dropOldest 14 = .ok (.aload_n 0, 1) := by decide +kernel
theorem dX2_dropOldest_15 : decode cX2_dropOldest 15 = .ok (.getfield 11, 3) := by decide +kernel
theorem dX2_dropOldest_18 : decode cX2_dropOldest 18 = .ok (.iload_n 2, 1) := by decide +kernel
theorem dX2_dropOldest_19 : decode cX2_dropOldest 19 = .ok (.iconst 1, 1) := by decide +kernel
theorem dX2_dropOldest_20 : decode cX2_dropOldest 20 = .ok (.isub, 1) := by decide +kernel
theorem dX2_dropOldest_21 : decode cX2_dropOldest 21 = .ok (.aload_n 0, 1) := by decide +kernel
theorem dX2_dropOldest_22 : decode cX2_dropOldest 22 = .ok (.getfield 11, 3) := by decide +kernel
theorem dX2_dropOldest_25 : decode cX2_dropOldest 25 = .ok (.iload_n 2, 1) := by decide +kernel
theorem dX2_dropOldest_26 : decode cX2_dropOldest 26 = .ok (.aaload, 1) := by decide +kernel
theorem dX2_dropOldest_27 : decode cX2_dropOldest 27 = .ok (.aastore, 1) := by decide +kernel
theorem dX2_dropOldest_28 : decode cX2_dropOldest 28 = .ok (.iinc 2 1, 3) := by decide +kernel
theorem dX2_dropOldest_31 : decode cX2_dropOldest 31 = .ok (.goto (-22), 3) := by decide +kernel
theorem dX2_dropOldest_34 : decode cX2_dropOldest 34 = .ok (.aload_n 0, 1) := by decide +kernel
theorem dX2_dropOldest_35 : decode cX2_dropOldest 35 = .ok (.getfield 11, 3) := by decide +kernel
theorem dX2_dropOldest_38 : decode cX2_dropOldest 38 = .ok (.iconst 3, 1) := by decide +kernel
theorem dX2_dropOldest_39 : decode cX2_dropOldest 39 = .ok (.aload_n 1, 1) := by decide +kernel
theorem dX2_dropOldest_40 : decode cX2_dropOldest 40 = .ok (.aastore, 1) := by decide +kernel
theorem dX2_dropOldest_41 : decode cX2_dropOldest 41 = .ok (.aload_n 0, 1) := by decide +kernel
theorem dX2_dropOldest_42 : decode cX2_dropOldest 42 = .ok (.iconst 3, 1) := by decide +kernel
theorem dX2_dropOldest_43 : decode cX2_dropOldest 43 = .ok (.putfield 18, 3) := by decide +kernel
theorem dX2_dropOldest_46 : decode cX2_dropOldest 46 = .ok (.return_, 1) := by decide +kernel
theorem dX2_bringBack_0 : decode cX2_bringBack 0 = .ok (.aload_n 0, 1) := by decide +kernel
theorem dX2_bringBack_1 : decode cX2_bringBack 1 = .ok (.getfield 18, 3) := by decide +kernel
theorem dX2_bringBack_4 : decode cX2_bringBack 4 = .ok (.ifCond .le 26, 3) := by decide +kernel
theorem dX2_bringBack_7 : decode cX2_bringBack 7 = .ok (.aload_n 0, 1) := by decide +kernel
theorem dX2_bringBack_8 : decode cX2_bringBack 8 = .ok (.dup, 1) := by decide +kernel
theorem dX2_bringBack_9 : decode cX2_bringBack 9 = .ok (.getfield 18, 3) := by decide +kernel
theorem dX2_bringBack_12 : decode cX2_bringBack 12 = .ok (.iconst 1, 1) := by decide +kernel
theorem dX2_bringBack_13 : decode cX2_bringBack 13 = .ok (.isub, 1) := by decide +kernel
theorem dX2_bringBack_14 : decode cX2_bringBack 14 = .ok (.putfield 18, 3) := by decide +kernel
theorem dX2_bringBack_17 : decode cX2_bringBack 17 = .ok (.aload_n 1, 1) := by decide +kernel
theorem dX2_bringBack_18 : decode cX2_bringBack 18 = .ok (.aload_n 0, 1) := by decide +kernel
theorem dX2_bringBack_19 : decode cX2_bringBack 19 = .ok (.getfield 11, 3) := by decide +kernel
theorem dX2_bringBack_22 : decode cX2_bringBack 22 = .ok (.aload_n 0, 1) := by decide +kernel
theorem dX2_bringBack_23 : decode cX2_bringBack 23 = .ok (.getfield 18, 3) := by decide +kernel
theorem dX2_bringBack_26 : decode cX2_bringBack 26 = .ok (.aaload, 1) := by decide +kernel
theorem dX2_bringBack_27 : decode cX2_bringBack 27 = .ok (.invokevirtual 25, 3) := by decide +kernel
theorem dX2_bringBack_30 : decode cX2_bringBack 30 = .ok (.return_, 1) := by decide +kernel
theorem dX3_init_0 : decode cX3_init 0 = .ok (.aload_n 0, 1) := by decide +kernel
theorem dX3_init_1 : decode cX3_init 1 = .ok (.invokespecial 3, 3) := by decide +kernel
theorem dX3_init_4 : decode cX3_init 4 = .ok (.aload_n 0, 1) := by decide +kernel
theorem dX3_init_5 : decode cX3_init 5 = .ok (.bipush 12, 2) := by decide +kernel
theorem dX3_init_7 : decode cX3_init 7 = .ok (.newarray .int, 2) := by decide +kernel
theorem dX3_init_9 : decode cX3_init 9 = .ok (.putfield 9, 3) := by decide +kernel
theorem dX3_init_12 : decode cX3_init 12 = .ok (.return_, 1) := by decide +kernel
theorem dX3_begin_0 : decode cX3_begin 0 = .ok (.aload_n 0, 1) := by decide +kernel
theorem dX3_begin_1 : decode cX3_begin 1 = .ok (.iconst 0, 1) := by decide +kernel
theorem dX3_begin_2 : decode cX3_begin 2 = .ok (.putfield 15, 3) := by decide +kernel
theorem dX3_begin_5 : decode cX3_begin 5 = .ok (.aload_n 0, 1) := by decide +kernel
theorem dX3_begin_6 : decode cX3_begin 6 = .ok (.iload_n 1, 1) := by decide +kernel
theorem dX3_begin_7 : decode cX3_begin 7 = .ok (.putfield 19, 3) := by decide +kernel
theorem dX3_begin_10 : decode cX3_begin 10 = .ok (.aload_n 0, 1) := by decide +kernel
theorem dX3_begin_11 : decode cX3_begin 11 = .ok (.iload_n 2, 1) := by decide +kernel
theorem dX3_begin_12 : decode cX3_begin 12 = .ok (.putfield 22, 3) := by decide +kernel
theorem dX3_begin_15 : decode cX3_begin 15 = .ok (.aload_n 0, 1) := by decide +kernel
theorem dX3_begin_16 : decode cX3_begin 16 = .ok (.iconst 0, 1) := by decide +kernel
theorem dX3_begin_17 : decode cX3_begin 17 = .ok (.putfield 25, 3) := by decide +kernel
theorem dX3_begin_20 : decode cX3_begin 20 = .ok (.aload_n 0, 1) := by decide +kernel
theorem dX3_begin_21 : decode cX3_begin 21 = .ok (.iconst 0, 1) := by decide +kernel
theorem dX3_begin_22 : decode cX3_begin 22 = .ok (.putfield 28, 3) := by decide +kernel
theorem dX3_begin_25 : decode cX3_begin 25 = .ok (.aload_n 0, 1) := by decide +kernel
theorem dX3_begin_26 : decode cX3_begin 26 = .ok (.iconst 0, 1) := by decide +kernel
theorem dX3_begin_27 : decode cX3_begin 27 = .ok (.putfield 31, 3) := by decide +kernel
theorem dX3_begin_30 : decode cX3_begin 30 = .ok (.aload_n 0, 1) := by decide +kernel
theorem dX3_begin_31 : decode cX3_begin 31 = .ok (.iconst 0, 1) := by decide +kernel
theorem dX3_begin_32 : decode cX3_begin 32 = .ok (.putfield 34, 3) := by decide +kernel
theorem dX3_begin_35 : decode cX3_begin 35 = .ok (.aload_n 0, 1) := by decide +kernel
theorem dX3_begin_36 : decode cX3_begin 36 = .ok (.iconst 0, 1) := by decide +kernel
theorem dX3_begin_37 : decode cX3_begin 37 = .ok (.putfield 37, 3) := by decide +kernel
theorem dX3_begin_40 : decode cX3_begin 40 = .ok (.return_, 1) := by decide +kernel
theorem dX3_copyFrom_0 : decode cX3_copyFrom 0 = .ok (.aload_n 1, 1) := by decide +kernel
theorem dX3_copyFrom_1 : decode cX3_copyFrom 1 = .ok (.getfield 9, 3) := by decide +kernel
theorem dX3_copyFrom_4 : decode cX3_copyFrom 4 = .ok (.iconst 0, 1) := by decide +kernel
theorem dX3_copyFrom_5 : decode cX3_copyFrom 5 = .ok (.aload_n 0, 1) := by decide +kernel
theorem dX3_copyFrom_6 : decode cX3_copyFrom 6 = .ok (.getfield 9, 3) := by decide +kernel
theorem dX3_copyFrom_9 : decode cX3_copyFrom 9 = .ok (.iconst 0, 1) := by decide +kernel
theorem dX3_copyFrom_10 : decode cX3_copyFrom 10 = .ok (.bipush 12, 2) := by decide +kernel
theorem dX3_copyFrom_12 : decode cX3_copyFrom 12 = .ok (.invokestatic 41, 3) := by decide +kernel
theorem dX3_copyFrom_15 : decode cX3_copyFrom 15 = .ok (.aload_n 0, 1) := by decide +kernel
theorem dX3_copyFrom_16 : decode cX3_copyFrom 16 = .ok (.aload_n 1, 1) := by decide +kernel
theorem dX3_copyFrom_17 : decode cX3_copyFrom 17 = .ok (.getfield 15, 3) := by decide +kernel
theorem dX3_copyFrom_20 : decode cX3_copyFrom 20 = .ok (.putfield 15, 3) := by decide +kernel
theorem dX3_copyFrom_23 : decode cX3_copyFrom 23 = .ok (.aload_n 0, 1) := by decide +kernel
theorem dX3_copyFrom_24 : decode cX3_copyFrom 24 = .ok (.aload_n 1, 1) := by decide +kernel
theorem dX3_copyFrom_25 : decode cX3_copyFrom 25 = .ok (.getfield 19, 3) := by decide +kernel
theorem dX3_copyFrom_28 : decode cX3_copyFrom 28 = .ok (.putfield 19, 3) := by decide +kernel
theorem dX3_copyFrom_31 : decode cX3_copyFrom 31 = .ok (.aload_n 0, 1) := by decide +kernel
theorem dX3_copyFrom_32 : decode cX3_copyFrom 32 = .ok (.aload_n 1, 1) := by decide +kernel
theorem dX3_copyFrom_33 : decode cX3_copyFrom 33 = .ok (.getfield 22, 3) := by decide +kernel
theorem dX3_copyFrom_36 : decode cX3_copyFrom 36 = .ok (.putfield 22, 3) := by decide +kernel
theorem dX3_copyFrom_39 : decode cX3_copyFrom 39 = .ok (.aload_n 0, 1) := by decide +kernel
theorem dX3_copyFrom_40 : decode cX3_copyFrom 40 = .ok (.aload_n 1, 1) := by decide +kernel
theorem dX3_copyFrom_41 : decode cX3_copyFrom 41 = .ok (.getfield 25, 3) := by decide +kernel
theorem dX3_copyFrom_44 : decode cX3_copyFrom 44 = .ok (.putfield 25, 3) := by decide +kernel
theorem dX3_copyFrom_47 : decode cX3_copyFrom 47 = .ok (.aload_n 0, 1) := by decide +kernel
theorem dX3_copyFrom_48 : decode cX3_copyFrom 48 = .ok (.aload_n 1, 1) := by decide +kernel
theorem dX3_copyFrom_49 : decode cX3_copyFrom 49 = .ok (.getfield 28, 3) := by decide +kernel
theorem dX3_copyFrom_52 : decode cX3_copyFrom 52 = .ok (.putfield 28, 3) := by decide +kernel
theorem dX3_copyFrom_55 : decode cX3_copyFrom 55 = .ok (.aload_n 0, 1) := by decide +kernel
theorem dX3_copyFrom_56 : decode cX3_copyFrom 56 = .ok (.aload_n 1, 1) := by decide +kernel
theorem dX3_copyFrom_57 : decode cX3_copyFrom 57 = .ok (.getfield 31, 3) := by decide +kernel
theorem dX3_copyFrom_60 : decode cX3_copyFrom 60 = .ok (.putfield 31, 3) := by decide +kernel
theorem dX3_copyFrom_63 : decode cX3_copyFrom 63 = .ok (.aload_n 0, 1) := by decide +kernel
theorem dX3_copyFrom_64 : decode cX3_copyFrom 64 = .ok (.aload_n 1, 1) := by decide +kernel
theorem dX3_copyFrom_65 : decode cX3_copyFrom 65 = .ok (.getfield 34, 3) := by decide +kernel
theorem dX3_copyFrom_68 : decode cX3_copyFrom 68 = .ok (.putfield 34, 3) := by decide +kernel
theorem dX3_copyFrom_71 : decode cX3_copyFrom 71 = .ok (.aload_n 0, 1) := by decide +kernel
theorem dX3_copyFrom_72 : decode cX3_copyFrom 72 = .ok (.aload_n 1, 1) := by decide +kernel
theorem dX3_copyFrom_73 : decode cX3_copyFrom 73 = .ok (.getfield 37, 3) := by decide +kernel
theorem dX3_copyFrom_76 : decode cX3_copyFrom 76 = .ok (.putfield 37, 3) := by decide +kernel
theorem dX3_copyFrom_79 : decode cX3_copyFrom 79 = .ok (.return_, 1) := by decide +kernel
theorem dX3_isOpen_0 : decode cX3_isOpen 0 = .ok (.aload_n 0, 1) := by decide +kernel
theorem dX3_isOpen_1 : decode cX3_isOpen 1 = .ok (.getfield 15, 3) := by decide +kernel
theorem dX3_isOpen_4 : decode cX3_isOpen 4 = .ok (.ifCond .ne 7, 3) := by decide +kernel
theorem dX3_isOpen_7 : decode cX3_isOpen 7 = .ok (.iconst 1, 1) := by decide +kernel
theorem dX3_isOpen_8 : decode cX3_isOpen 8 = .ok (.goto 4, 3) := by decide +kernel
theorem dX3_isOpen_11 : decode cX3_isOpen 11 = .ok (.iconst 0, 1) := by decide +kernel
theorem dX3_isOpen_12 : decode cX3_isOpen 12 = .ok (.ireturn, 1) := by decide +kernel
theorem dX3_isOpenWidow_0 : decode cX3_isOpenWidow 0 = .ok (.aload_n 0, 1) := by decide +kernel
theorem dX3_isOpenWidow_1 : decode cX3_isOpenWidow 1 = .ok (.getfield 15, 3) := by decide +kernel
theorem dX3_isOpenWidow_4 : decode cX3_isOpenWidow 4 = .ok (.ifCond .ne 14, 3) := by decide +kernel
theorem dX3_isOpenWidow_7 : decode cX3_isOpenWidow 7 = .ok (.aload_n 0, 1) := by decide +kernel
theorem dX3_isOpenWidow_8 : decode cX3_isOpenWidow 8 = .ok (.getfield 31, 3) := by decide +kernel
theorem dX3_isOpenWidow_11 : decode cX3_isOpenWidow 11 = .ok (.ifCond .le 7, 3) := by decide +kernel
theorem dX3_isOpenWidow_14 : decode cX3_isOpenWidow 14 = .ok (.iconst 1, 1) := by decide +kernel
theorem dX3_isOpenWidow_15 : decode cX3_isOpenWidow 15 = .ok (.goto 4, 3) := by decide +kernel
theorem dX3_isOpenWidow_18 : decode cX3_isOpenWidow 18 = .ok (.iconst 0, 1) := by decide +kernel
theorem dX3_isOpenWidow_19 : decode cX3_isOpenWidow 19 = .ok (.ireturn, 1) := by decide +kernel
theorem dX3_paysRent_0 : decode cX3_paysRent 0 = .ok (.aload_n 0, 1) := by decide +kernel
theorem dX3_paysRent_1 : decode cX3_paysRent 1 = .ok (.getfield 15, 3) := by decide +kernel
theorem dX3_paysRent_4 : decode cX3_paysRent 4 = .ok (.ifCond .ne 14, 3) := by decide +kernel
theorem dX3_paysRent_7 : decode cX3_paysRent 7 = .ok (.aload_n 0, 1) := by decide +kernel
theorem dX3_paysRent_8 : decode cX3_paysRent 8 = .ok (.getfield 31, 3) := by decide +kernel
theorem dX3_paysRent_11 : decode cX3_paysRent 11 = .ok (.ifCond .ne 7, 3) := by decide +kernel
theorem dX3_paysRent_14 : decode cX3_paysRent 14 = .ok (.iconst 1, 1) := by decide +kernel
theorem dX3_paysRent_15 : decode cX3_paysRent 15 = .ok (.goto 4, 3) := by decide +kernel
theorem dX3_paysRent_18 : decode cX3_paysRent 18 = .ok (.iconst 0, 1) := by decide +kernel
theorem dX3_paysRent_19 : decode cX3_paysRent 19 = .ok (.ireturn, 1) := by decide +kernel
theorem dX3_hasWrite_0 : decode cX3_hasWrite 0 = .ok (.aload_n 0, 1) := by decide +kernel
theorem dX3_hasWrite_1 : decode cX3_hasWrite 1 = .ok (.getfield 28, 3) := by decide +kernel
theorem dX3_hasWrite_4 : decode cX3_hasWrite 4 = .ok (.iload_n 1, 1) := by decide +kernel
theorem dX3_hasWrite_5 : decode cX3_hasWrite 5 = .ok (.ishr, 1) := by decide +kernel
theorem dX3_hasWrite_6 : decode cX3_hasWrite 6 = .ok (.iconst 1, 1) := by decide +kernel
theorem dX3_hasWrite_7 : decode cX3_hasWrite 7 = .ok (.iand, 1) := by decide +kernel
theorem dX3_hasWrite_8 : decode cX3_hasWrite 8 = .ok (.ifCond .eq 7, 3) := by decide +kernel
theorem dX3_hasWrite_11 : decode cX3_hasWrite 11 = .ok (.iconst 1, 1) := by decide +kernel
theorem dX3_hasWrite_12 : decode cX3_hasWrite 12 = .ok (.goto 4, 3) := by decide +kernel
theorem dX3_hasWrite_15 : decode cX3_hasWrite 15 = .ok (.iconst 0, 1) := by decide +kernel
theorem dX3_hasWrite_16 : decode cX3_hasWrite 16 = .ok (.ireturn, 1) := by decide +kernel
theorem dX3_putWrite_0 : decode cX3_putWrite 0 = .ok (.aload_n 0, 1) := by decide +kernel
theorem dX3_putWrite_1 : decode cX3_putWrite 1 = .ok (.getfield 9, 3) := by decide +kernel
theorem dX3_putWrite_4 : decode cX3_putWrite 4 = .ok (.iload_n 1, 1) := by decide +kernel
theorem dX3_putWrite_5 : decode cX3_putWrite 5 = .ok (.iload_n 2, 1) := by decide +kernel
theorem dX3_putWrite_6 : decode cX3_putWrite 6 = .ok (.iastore, 1) := by decide +kernel
theorem dX3_putWrite_7 : decode cX3_putWrite 7 = .ok (.aload_n 0, 1) := by decide +kernel
theorem dX3_putWrite_8 : decode cX3_putWrite 8 = .ok (.dup, 1) := by decide +kernel
theorem dX3_putWrite_9 : decode cX3_putWrite 9 = .ok (.getfield 28, 3) := by decide +kernel
theorem dX3_putWrite_12 : decode cX3_putWrite 12 = .ok (.iconst 1, 1) := by decide +kernel
theorem dX3_putWrite_13 : decode cX3_putWrite 13 = .ok (.iload_n 1, 1) := by decide +kernel
theorem dX3_putWrite_14 : decode cX3_putWrite 14 = .ok (.ishl, 1) := by decide +kernel
theorem dX3_putWrite_15 : decode cX3_putWrite 15 = .ok (.ior, 1) := by decide +kernel
theorem dX3_putWrite_16 : decode cX3_putWrite 16 = .ok (.putfield 28, 3) := by decide +kernel
theorem dX3_putWrite_19 : decode cX3_putWrite 19 = .ok (.return_, 1) := by decide +kernel
theorem dX3_numberOfWrites_0 : decode cX3_numberOfWrites 0 = .ok (.aload_n 0, 1) := by decide +kernel
theorem dX3_numberOfWrites_1 : decode cX3_numberOfWrites 1 = .ok (.getfield 28, 3) := by decide +kernel
theorem dX3_numberOfWrites_4 : decode cX3_numberOfWrites 4 = .ok (.invokestatic 47, 3) := by decide +kernel
theorem dX3_numberOfWrites_7 : decode cX3_numberOfWrites 7 = .ok (.ireturn, 1) := by decide +kernel
theorem dX4_init_0 : decode cX4_init 0 = .ok (.aload_n 0, 1) := by decide +kernel
theorem dX4_init_1 : decode cX4_init 1 = .ok (.invokespecial 3, 3) := by decide +kernel
theorem dX4_init_4 : decode cX4_init 4 = .ok (.aload_n 0, 1) := by decide +kernel
theorem dX4_init_5 : decode cX4_init 5 = .ok (.bipush 12, 2) := by decide +kernel
theorem dX4_init_7 : decode cX4_init 7 = .ok (.anewarray 9, 3) := by decide +kernel
theorem dX4_init_10 : decode cX4_init 10 = .ok (.putfield 11, 3) := by decide +kernel
theorem dX4_init_13 : decode cX4_init 13 = .ok (.aload_n 0, 1) := by decide +kernel
theorem dX4_init_14 : decode cX4_init 14 = .ok (.bipush 40, 2) := by decide +kernel
theorem dX4_init_16 : decode cX4_init 16 = .ok (.anewarray 17, 3) := by decide +kernel
theorem dX4_init_19 : decode cX4_init 19 = .ok (.putfield 19, 3) := by decide +kernel
theorem dX4_init_22 : decode cX4_init 22 = .ok (.aload_n 0, 1) := by decide +kernel
theorem dX4_init_23 : decode cX4_init 23 = .ok (.bipush 40, 2) := by decide +kernel
theorem dX4_init_25 : decode cX4_init 25 = .ok (.anewarray 23, 3) := by decide +kernel
theorem dX4_init_28 : decode cX4_init 28 = .ok (.putfield 25, 3) := by decide +kernel
theorem dX4_init_31 : decode cX4_init 31 = .ok (.aload_n 0, 1) := by decide +kernel
theorem dX4_init_32 : decode cX4_init 32 = .ok (.iconst 4, 1) := by decide +kernel
theorem dX4_init_33 : decode cX4_init 33 = .ok (.putfield 29, 3) := by decide +kernel
theorem dX4_init_36 : decode cX4_init 36 = .ok (.aload_n 0, 1) := by decide +kernel
theorem dX4_init_37 : decode cX4_init 37 = .ok (.bipush 40, 2) := by decide +kernel
theorem dX4_init_39 : decode cX4_init 39 = .ok (.newarray .int, 2) := by decide +kernel
theorem dX4_init_41 : decode cX4_init 41 = .ok (.putfield 33, 3) := by decide +kernel
theorem dX4_init_44 : decode cX4_init 44 = .ok (.iconst 0, 1) := by decide +kernel
theorem dX4_init_45 : decode cX4_init 45 = .ok (.istore_n 1, 1) := by decide +kernel
theorem dX4_init_46 : decode cX4_init 46 = .ok (.iload_n 1, 1) := by decide +kernel
theorem dX4_init_47 : decode cX4_init 47 = .ok (.bipush 12, 2) := by decide +kernel
theorem dX4_init_49 : decode cX4_init 49 = .ok (.if_icmp .ge 22, 3) := by decide +kernel
theorem dX4_init_52 : decode cX4_init 52 = .ok (.aload_n 0, 1) := by decide +kernel
theorem dX4_init_53 : decode cX4_init 53 = .ok (.getfield 11, 3) := by decide +kernel
theorem dX4_init_56 : decode cX4_init 56 = .ok (.iload_n 1, 1) := by decide +kernel
theorem dX4_init_57 : decode cX4_init 57 = .ok (.new 9, 3) := by decide +kernel
theorem dX4_init_60 : decode cX4_init 60 = .ok (.dup, 1) := by decide +kernel
theorem dX4_init_61 : decode cX4_init 61 = .ok (.invokespecial 37, 3) := by decide +kernel
theorem dX4_init_64 : decode cX4_init 64 = .ok (.aastore, 1) := by decide +kernel
theorem dX4_init_65 : decode cX4_init 65 = .ok (.iinc 1 1, 3) := by decide +kernel
theorem dX4_init_68 : decode cX4_init 68 = .ok (.goto (-22), 3) := by decide +kernel
theorem dX4_init_71 : decode cX4_init 71 = .ok (.iconst 0, 1) := by decide +kernel
theorem dX4_init_72 : decode cX4_init 72 = .ok (.istore_n 1, 1) := by decide +kernel
theorem dX4_init_73 : decode cX4_init 73 = .ok (.iload_n 1, 1) := by decide +kernel
theorem dX4_init_74 : decode cX4_init 74 = .ok (.bipush 40, 2) := by decide +kernel
theorem dX4_init_76 : decode cX4_init 76 = .ok (.if_icmp .ge 35, 3) := by decide +kernel
theorem dX4_init_79 : decode cX4_init 79 = .ok (.aload_n 0, 1) := by decide +kernel
theorem dX4_init_80 : decode cX4_init 80 = .ok (.getfield 19, 3) := by decide +kernel
theorem dX4_init_83 : decode cX4_init 83 = .ok (.iload_n 1, 1) := by decide +kernel
theorem dX4_init_84 : decode cX4_init 84 = .ok (.new 17, 3) := by decide +kernel
theorem dX4_init_87 : decode cX4_init 87 = .ok (.dup, 1) := by decide +kernel
theorem dX4_init_88 : decode cX4_init 88 = .ok (.invokespecial 38, 3) := by decide +kernel
theorem dX4_init_91 : decode cX4_init 91 = .ok (.aastore, 1) := by decide +kernel
theorem dX4_init_92 : decode cX4_init 92 = .ok (.aload_n 0, 1) := by decide +kernel
theorem dX4_init_93 : decode cX4_init 93 = .ok (.getfield 25, 3) := by decide +kernel
theorem dX4_init_96 : decode cX4_init 96 = .ok (.iload_n 1, 1) := by decide +kernel
theorem dX4_init_97 : decode cX4_init 97 = .ok (.new 23, 3) := by decide +kernel
theorem dX4_init_100 : decode cX4_init 100 = .ok (.dup, 1) := by decide +kernel
theorem dX4_init_101 : decode cX4_init 101 = .ok (.invokespecial 39, 3) := by decide +kernel
theorem dX4_init_104 : decode cX4_init 104 = .ok (.aastore, 1) := by decide +kernel
theorem dX4_init_105 : decode cX4_init 105 = .ok (.iinc 1 1, 3) := by decide +kernel
theorem dX4_init_108 : decode cX4_init 108 = .ok (.goto (-35), 3) := by decide +kernel
theorem dX4_init_111 : decode cX4_init 111 = .ok (.return_, 1) := by decide +kernel
theorem dX4_copyFrom_0 : decode cX4_copyFrom 0 = .ok (.iconst 0, 1) := by decide +kernel
theorem dX4_copyFrom_1 : decode cX4_copyFrom 1 = .ok (.istore_n 2, 1) := by decide +kernel
theorem dX4_copyFrom_2 : decode cX4_copyFrom 2 = .ok (.iload_n 2, 1) := by decide +kernel
theorem dX4_copyFrom_3 : decode cX4_copyFrom 3 = .ok (.bipush 12, 2) := by decide +kernel
theorem dX4_copyFrom_5 : decode cX4_copyFrom 5 = .ok (.if_icmp .ge 24, 3) := by decide +kernel
theorem dX4_copyFrom_8 : decode cX4_copyFrom 8 = .ok (.aload_n 0, 1) := by decide +kernel
theorem dX4_copyFrom_9 : decode cX4_copyFrom 9 = .ok (.getfield 11, 3) := by decide +kernel
theorem dX4_copyFrom_12 : decode cX4_copyFrom 12 = .ok (.iload_n 2, 1) := by decide +kernel
theorem dX4_copyFrom_13 : decode cX4_copyFrom 13 = .ok (.aaload, 1) := by decide +kernel
theorem dX4_copyFrom_14 : decode cX4_copyFrom 14 = .ok (.aload_n 1, 1) := by decide +kernel
theorem dX4_copyFrom_15 : decode cX4_copyFrom 15 = .ok (.getfield 11, 3) := by decide +kernel
theorem dX4_copyFrom_18 : decode cX4_copyFrom 18 = .ok (.iload_n 2, 1) := by decide +kernel
theorem dX4_copyFrom_19 : decode cX4_copyFrom 19 = .ok (.aaload, 1) := by decide +kernel
theorem dX4_copyFrom_20 : decode cX4_copyFrom 20 = .ok (.invokevirtual 40, 3) := by decide +kernel
theorem dX4_copyFrom_23 : decode cX4_copyFrom 23 = .ok (.iinc 2 1, 3) := by decide +kernel
theorem dX4_copyFrom_26 : decode cX4_copyFrom 26 = .ok (.goto (-24), 3) := by decide +kernel
theorem dX4_copyFrom_29 : decode cX4_copyFrom 29 = .ok (.iconst 0, 1) := by decide +kernel
theorem dX4_copyFrom_30 : decode cX4_copyFrom 30 = .ok (.istore_n 2, 1) := by decide +kernel
theorem dX4_copyFrom_31 : decode cX4_copyFrom 31 = .ok (.iload_n 2, 1) := by decide +kernel
theorem dX4_copyFrom_32 : decode cX4_copyFrom 32 = .ok (.aload_n 1, 1) := by decide +kernel
theorem dX4_copyFrom_33 : decode cX4_copyFrom 33 = .ok (.getfield 44, 3) := by decide +kernel
theorem dX4_copyFrom_36 : decode cX4_copyFrom 36 = .ok (.if_icmp .ge 24, 3) := by decide +kernel
theorem dX4_copyFrom_39 : decode cX4_copyFrom 39 = .ok (.aload_n 0, 1) := by decide +kernel
theorem dX4_copyFrom_40 : decode cX4_copyFrom 40 = .ok (.getfield 19, 3) := by decide +kernel
theorem dX4_copyFrom_43 : decode cX4_copyFrom 43 = .ok (.iload_n 2, 1) := by decide +kernel
theorem dX4_copyFrom_44 : decode cX4_copyFrom 44 = .ok (.aaload, 1) := by decide +kernel
theorem dX4_copyFrom_45 : decode cX4_copyFrom 45 = .ok (.aload_n 1, 1) := by decide +kernel
theorem dX4_copyFrom_46 : decode cX4_copyFrom 46 = .ok (.getfield 19, 3) := by decide +kernel
theorem dX4_copyFrom_49 : decode cX4_copyFrom 49 = .ok (.iload_n 2, 1) := by decide +kernel
theorem dX4_copyFrom_50 : decode cX4_copyFrom 50 = .ok (.aaload, 1) := by decide +kernel
theorem dX4_copyFrom_51 : decode cX4_copyFrom 51 = .ok (.invokevirtual 47, 3) := by decide +kernel
theorem dX4_copyFrom_54 : decode cX4_copyFrom 54 = .ok (.iinc 2 1, 3) := by decide +kernel
theorem dX4_copyFrom_57 : decode cX4_copyFrom 57 = .ok (.goto (-26), 3) := by decide +kernel
theorem dX4_copyFrom_60 : decode cX4_copyFrom 60 = .ok (.iconst 0, 1) := by decide +kernel
theorem dX4_copyFrom_61 : decode cX4_copyFrom 61 = .ok (.istore_n 2, 1) := by decide +kernel
theorem dX4_copyFrom_62 : decode cX4_copyFrom 62 = .ok (.iload_n 2, 1) := by decide +kernel
theorem dX4_copyFrom_63 : decode cX4_copyFrom 63 = .ok (.aload_n 1, 1) := by decide +kernel
theorem dX4_copyFrom_64 : decode cX4_copyFrom 64 = .ok (.getfield 50, 3) := by decide +kernel
theorem dX4_copyFrom_67 : decode cX4_copyFrom 67 = .ok (.if_icmp .ge 24, 3) := by decide +kernel
theorem dX4_copyFrom_70 : decode cX4_copyFrom 70 = .ok (.aload_n 0, 1) := by decide +kernel
theorem dX4_copyFrom_71 : decode cX4_copyFrom 71 = .ok (.getfield 25, 3) := by decide +kernel
theorem dX4_copyFrom_74 : decode cX4_copyFrom 74 = .ok (.iload_n 2, 1) := by decide +kernel
theorem dX4_copyFrom_75 : decode cX4_copyFrom 75 = .ok (.aaload, 1) := by decide +kernel
theorem dX4_copyFrom_76 : decode cX4_copyFrom 76 = .ok (.aload_n 1, 1) := by decide +kernel
theorem dX4_copyFrom_77 : decode cX4_copyFrom 77 = .ok (.getfield 25, 3) := by decide +kernel
theorem dX4_copyFrom_80 : decode cX4_copyFrom 80 = .ok (.iload_n 2, 1) := by decide +kernel
theorem dX4_copyFrom_81 : decode cX4_copyFrom 81 = .ok (.aaload, 1) := by decide +kernel
theorem dX4_copyFrom_82 : decode cX4_copyFrom 82 = .ok (.invokevirtual 53, 3) := by decide +kernel
theorem dX4_copyFrom_85 : decode cX4_copyFrom 85 = .ok (.iinc 2 1, 3) := by decide +kernel
theorem dX4_copyFrom_88 : decode cX4_copyFrom 88 = .ok (.goto (-26), 3) := by decide +kernel
theorem dX4_copyFrom_91 : decode cX4_copyFrom 91 = .ok (.aload_n 0, 1) := by decide +kernel
theorem dX4_copyFrom_92 : decode cX4_copyFrom 92 = .ok (.aload_n 1, 1) := by decide +kernel
theorem dX4_copyFrom_93 : decode cX4_copyFrom 93 = .ok (.getfield 56, 3) := by decide +kernel
theorem dX4_copyFrom_96 : decode cX4_copyFrom 96 = .ok (.putfield 56, 3) := by decide +kernel
theorem dX4_copyFrom_99 : decode cX4_copyFrom 99 = .ok (.aload_n 0, 1) := by decide +kernel
theorem dX4_copyFrom_100 : decode cX4_copyFrom 100 = .ok (.aload_n 1, 1) := by decide +kernel
theorem dX4_copyFrom_101 : decode cX4_copyFrom 101 = .ok (.getfield 59, 3) := by decide +kernel
theorem dX4_copyFrom_104 : decode cX4_copyFrom 104 = .ok (.putfield 59, 3) := by decide +kernel
theorem dX4_copyFrom_107 : decode cX4_copyFrom 107 = .ok (.aload_n 0, 1) := by decide +kernel
theorem dX4_copyFrom_108 : decode cX4_copyFrom 108 = .ok (.aload_n 1, 1) := by decide +kernel
theorem dX4_copyFrom_109 : decode cX4_copyFrom 109 = .ok (.getfield 29, 3) := by decide +kernel
theorem dX4_copyFrom_112 : decode cX4_copyFrom 112 = .ok (.putfield 29, 3) := by decide +kernel
theorem dX4_copyFrom_115 : decode cX4_copyFrom 115 = .ok (.aload_n 0, 1) := by decide +kernel
theorem dX4_copyFrom_116 : decode cX4_copyFrom 116 = .ok (.aload_n 1, 1) := by decide +kernel
theorem dX4_copyFrom_117 : decode cX4_copyFrom 117 = .ok (.getfield 44, 3) := by decide +kernel
theorem dX4_copyFrom_120 : decode cX4_copyFrom 120 = .ok (.putfield 44, 3) := by decide +kernel
theorem dX4_copyFrom_123 : decode cX4_copyFrom 123 = .ok (.aload_n 0, 1) := by decide +kernel
theorem dX4_copyFrom_124 : decode cX4_copyFrom 124 = .ok (.aload_n 1, 1) := by decide +kernel
theorem dX4_copyFrom_125 : decode cX4_copyFrom 125 = .ok (.getfield 50, 3) := by decide +kernel
theorem dX4_copyFrom_128 : decode cX4_copyFrom 128 = .ok (.putfield 50, 3) := by decide +kernel
theorem dX4_copyFrom_131 : decode cX4_copyFrom 131 = .ok (.aload_n 0, 1) := by decide +kernel
theorem dX4_copyFrom_132 : decode cX4_copyFrom 132 = .ok (.aload_n 1, 1) := by decide +kernel
theorem dX4_copyFrom_133 : decode cX4_copyFrom 133 = .ok (.getfield 62, 3) := by decide +kernel
theorem dX4_copyFrom_136 : decode cX4_copyFrom 136 = .ok (.putfield 62, 3) := by decide +kernel
theorem dX4_copyFrom_139 : decode cX4_copyFrom 139 = .ok (.aload_n 0, 1) := by decide +kernel
theorem dX4_copyFrom_140 : decode cX4_copyFrom 140 = .ok (.aload_n 1, 1) := by decide +kernel
theorem dX4_copyFrom_141 : decode cX4_copyFrom 141 = .ok (.getfield 65, 3) := by decide +kernel
theorem dX4_copyFrom_144 : decode cX4_copyFrom 144 = .ok (.putfield 65, 3) := by decide +kernel
theorem dX4_copyFrom_147 : decode cX4_copyFrom 147 = .ok (.return_, 1) := by decide +kernel
theorem dX4_hasReader_0 : decode cX4_hasReader 0 = .ok (.iload_n 1, 1) := by decide +kernel
theorem dX4_hasReader_1 : decode cX4_hasReader 1 = .ok (.ifCond .lt 15, 3) := by decide +kernel
theorem dX4_hasReader_4 : decode cX4_hasReader 4 = .ok (.iload_n 1, 1) := by decide +kernel
theorem dX4_hasReader_5 : decode cX4_hasReader 5 = .ok (.aload_n 0, 1) := by decide +kernel
theorem dX4_hasReader_6 : decode cX4_hasReader 6 = .ok (.getfield 44, 3) := by decide +kernel
theorem dX4_hasReader_9 : decode cX4_hasReader 9 = .ok (.if_icmp .ge 7, 3) := by decide +kernel
theorem dX4_hasReader_12 : decode cX4_hasReader 12 = .ok (.iconst 1, 1) := by decide +kernel
theorem dX4_hasReader_13 : decode cX4_hasReader 13 = .ok (.goto 4, 3) := by decide +kernel
theorem dX4_hasReader_16 : decode cX4_hasReader 16 = .ok (.iconst 0, 1) := by decide +kernel
theorem dX4_hasReader_17 : decode cX4_hasReader 17 = .ok (.ireturn, 1) := by decide +kernel
theorem dX4_addReader_0 : decode cX4_addReader 0 = .ok (.aload_n 0, 1) := by decide +kernel
theorem dX4_addReader_1 : decode cX4_addReader 1 = .ok (.getfield 44, 3) := by decide +kernel
theorem dX4_addReader_4 : decode cX4_addReader 4 = .ok (.istore_n 2, 1) := by decide +kernel
theorem dX4_addReader_5 : decode cX4_addReader 5 = .ok (.aload_n 0, 1) := by decide +kernel
theorem dX4_addReader_6 : decode cX4_addReader 6 = .ok (.getfield 19, 3) := by decide +kernel
theorem dX4_addReader_9 : decode cX4_addReader 9 = .ok (.iload_n 2, 1) := by decide +kernel
theorem dX4_addReader_10 : decode cX4_addReader 10 = .ok (.aaload, 1) := by decide +kernel
theorem dX4_addReader_11 : decode cX4_addReader 11 = .ok (.aload_n 0, 1) := by decide +kernel
theorem dX4_addReader_12 : decode cX4_addReader 12 = .ok (.getfield 56, 3) := by decide +kernel
theorem dX4_addReader_15 : decode cX4_addReader 15 = .ok (.iload_n 1, 1) := by decide +kernel
theorem dX4_addReader_16 : decode cX4_addReader 16 = .ok (.invokevirtual 69, 3) := by decide +kernel
theorem dX4_addReader_19 : decode cX4_addReader 19 = .ok (.aload_n 0, 1) := by decide +kernel
theorem dX4_addReader_20 : decode cX4_addReader 20 = .ok (.dup, 1) := by decide +kernel
theorem dX4_addReader_21 : decode cX4_addReader 21 = .ok (.getfield 44, 3) := by decide +kernel
theorem dX4_addReader_24 : decode cX4_addReader 24 = .ok (.iconst 1, 1) := by decide +kernel
theorem dX4_addReader_25 : decode cX4_addReader 25 = .ok (.iadd, 1) := by decide +kernel
theorem dX4_addReader_26 : decode cX4_addReader 26 = .ok (.putfield 44, 3) := by decide +kernel
theorem dX4_addReader_29 : decode cX4_addReader 29 = .ok (.iload_n 2, 1) := by decide +kernel
theorem dX4_addReader_30 : decode cX4_addReader 30 = .ok (.ireturn, 1) := by decide +kernel
theorem dX4_readersIn_0 : decode cX4_readersIn 0 = .ok (.iconst 0, 1) := by decide +kernel
theorem dX4_readersIn_1 : decode cX4_readersIn 1 = .ok (.istore_n 2, 1) := by decide +kernel
theorem dX4_readersIn_2 : decode cX4_readersIn 2 = .ok (.iconst 0, 1) := by decide +kernel
theorem dX4_readersIn_3 : decode cX4_readersIn 3 = .ok (.istore_n 3, 1) := by decide +kernel
theorem dX4_readersIn_4 : decode cX4_readersIn 4 = .ok (.iload_n 3, 1) := by decide +kernel
theorem dX4_readersIn_5 : decode cX4_readersIn 5 = .ok (.aload_n 0, 1) := by decide +kernel
theorem dX4_readersIn_6 : decode cX4_readersIn 6 = .ok (.getfield 44, 3) := by decide +kernel
theorem dX4_readersIn_9 : decode cX4_readersIn 9 = .ok (.if_icmp .ge 25, 3) := by decide +kernel
theorem dX4_readersIn_12 : decode cX4_readersIn 12 = .ok (.aload_n 0, 1) := by decide +kernel
theorem dX4_readersIn_13 : decode cX4_readersIn 13 = .ok (.getfield 19, 3) := by decide +kernel
theorem dX4_readersIn_16 : decode cX4_readersIn 16 = .ok (.iload_n 3, 1) := by decide +kernel
theorem dX4_readersIn_17 : decode cX4_readersIn 17 = .ok (.aaload, 1) := by decide +kernel
theorem dX4_readersIn_18 : decode cX4_readersIn 18 = .ok (.getfield 73, 3) := by decide +kernel
theorem dX4_readersIn_21 : decode cX4_readersIn 21 = .ok (.iload_n 1, 1) := by decide +kernel
theorem dX4_readersIn_22 : decode cX4_readersIn 22 = .ok (.if_icmp .ne 6, 3) := by decide +kernel
theorem dX4_readersIn_25 : decode cX4_readersIn 25 = .ok (.iinc 2 1, 3) := by decide +kernel
theorem dX4_readersIn_28 : decode cX4_readersIn 28 = .ok (.iinc 3 1, 3) := by decide +kernel
theorem dX4_readersIn_31 : decode cX4_readersIn 31 = .ok (.goto (-27), 3) := by decide +kernel
theorem dX4_readersIn_34 : decode cX4_readersIn 34 = .ok (.iload_n 2, 1) := by decide +kernel
theorem dX4_readersIn_35 : decode cX4_readersIn 35 = .ok (.ireturn, 1) := by decide +kernel
theorem dX4_openWidows_0 : decode cX4_openWidows 0 = .ok (.iconst 0, 1) := by decide +kernel
theorem dX4_openWidows_1 : decode cX4_openWidows 1 = .ok (.istore_n 1, 1) := by decide +kernel
theorem dX4_openWidows_2 : decode cX4_openWidows 2 = .ok (.iconst 0, 1) := by decide +kernel
theorem dX4_openWidows_3 : decode cX4_openWidows 3 = .ok (.istore_n 2, 1) := by decide +kernel
theorem dX4_openWidows_4 : decode cX4_openWidows 4 = .ok (.iload_n 2, 1) := by decide +kernel
theorem dX4_openWidows_5 : decode cX4_openWidows 5 = .ok (.aload_n 0, 1) := by decide +kernel
theorem dX4_openWidows_6 : decode cX4_openWidows 6 = .ok (.getfield 44, 3) := by decide +kernel
theorem dX4_openWidows_9 : decode cX4_openWidows 9 = .ok (.if_icmp .ge 24, 3) := by decide +kernel
theorem dX4_openWidows_12 : decode cX4_openWidows 12 = .ok (.aload_n 0, 1) := by decide +kernel
theorem dX4_openWidows_13 : decode cX4_openWidows 13 = .ok (.getfield 19, 3) := by decide +kernel
theorem dX4_openWidows_16 : decode cX4_openWidows 16 = .ok (.iload_n 2, 1) := by decide +kernel
theorem dX4_openWidows_17 : decode cX4_openWidows 17 = .ok (.aaload, 1) := by decide +kernel
theorem dX4_openWidows_18 : decode cX4_openWidows 18 = .ok (.invokevirtual 76, 3) := by decide +kernel
theorem dX4_openWidows_21 : decode cX4_openWidows 21 = .ok (.ifCond .eq 6, 3) := by decide +kernel
theorem dX4_openWidows_24 : decode cX4_openWidows 24 = .ok (.iinc 1 1, 3) := by decide +kernel
theorem dX4_openWidows_27 : decode cX4_openWidows 27 = .ok (.iinc 2 1, 3) := by decide +kernel
theorem dX4_openWidows_30 : decode cX4_openWidows 30 = .ok (.goto (-26), 3) := by decide +kernel
theorem dX4_openWidows_33 : decode cX4_openWidows 33 = .ok (.iload_n 1, 1) := by decide +kernel
theorem dX4_openWidows_34 : decode cX4_openWidows 34 = .ok (.ireturn, 1) := by decide +kernel
theorem dX4_coinsPaid_0 : decode cX4_coinsPaid 0 = .ok (.iconst 0, 1) := by decide +kernel
theorem dX4_coinsPaid_1 : decode cX4_coinsPaid 1 = .ok (.istore_n 1, 1) := by decide +kernel
theorem dX4_coinsPaid_2 : decode cX4_coinsPaid 2 = .ok (.iconst 0, 1) := by decide +kernel
theorem dX4_coinsPaid_3 : decode cX4_coinsPaid 3 = .ok (.istore_n 2, 1) := by decide +kernel
theorem dX4_coinsPaid_4 : decode cX4_coinsPaid 4 = .ok (.iload_n 2, 1) := by decide +kernel
theorem dX4_coinsPaid_5 : decode cX4_coinsPaid 5 = .ok (.aload_n 0, 1) := by decide +kernel
theorem dX4_coinsPaid_6 : decode cX4_coinsPaid 6 = .ok (.getfield 44, 3) := by decide +kernel
theorem dX4_coinsPaid_9 : decode cX4_coinsPaid 9 = .ok (.if_icmp .ge 21, 3) := by decide +kernel
theorem dX4_coinsPaid_12 : decode cX4_coinsPaid 12 = .ok (.iload_n 1, 1) := by decide +kernel
theorem dX4_coinsPaid_13 : decode cX4_coinsPaid 13 = .ok (.aload_n 0, 1) := by decide +kernel
theorem dX4_coinsPaid_14 : decode cX4_coinsPaid 14 = .ok (.getfield 19, 3) := by decide +kernel
theorem dX4_coinsPaid_17 : decode cX4_coinsPaid 17 = .ok (.iload_n 2, 1) := by decide +kernel
theorem dX4_coinsPaid_18 : decode cX4_coinsPaid 18 = .ok (.aaload, 1) := by decide +kernel
theorem dX4_coinsPaid_19 : decode cX4_coinsPaid 19 = .ok (.getfield 80, 3) := by decide +kernel
theorem dX4_coinsPaid_22 : decode cX4_coinsPaid 22 = .ok (.iadd, 1) := by decide +kernel
theorem dX4_coinsPaid_23 : decode cX4_coinsPaid 23 = .ok (.istore_n 1, 1) := by decide +kernel
theorem dX4_coinsPaid_24 : decode cX4_coinsPaid 24 = .ok (.iinc 2 1, 3) := by decide +kernel
theorem dX4_coinsPaid_27 : decode cX4_coinsPaid 27 = .ok (.goto (-23), 3) := by decide +kernel
theorem dX4_coinsPaid_30 : decode cX4_coinsPaid 30 = .ok (.iload_n 1, 1) := by decide +kernel
theorem dX4_coinsPaid_31 : decode cX4_coinsPaid 31 = .ok (.ireturn, 1) := by decide +kernel
theorem dX4_writersOf_0 : decode cX4_writersOf 0 = .ok (.iconst 0, 1) := by decide +kernel
theorem dX4_writersOf_1 : decode cX4_writersOf 1 = .ok (.istore_n 2, 1) := by decide +kernel
theorem dX4_writersOf_2 : decode cX4_writersOf 2 = .ok (.iconst 0, 1) := by decide +kernel
theorem dX4_writersOf_3 : decode cX4_writersOf 3 = .ok (.istore_n 3, 1) := by decide +kernel
theorem dX4_writersOf_4 : decode cX4_writersOf 4 = .ok (.iload_n 3, 1) := by decide +kernel
theorem dX4_writersOf_5 : decode cX4_writersOf 5 = .ok (.aload_n 0, 1) := by decide +kernel
theorem dX4_writersOf_6 : decode cX4_writersOf 6 = .ok (.getfield 44, 3) := by decide +kernel
theorem dX4_writersOf_9 : decode cX4_writersOf 9 = .ok (.if_icmp .ge 37, 3) := by decide +kernel
theorem dX4_writersOf_12 : decode cX4_writersOf 12 = .ok (.aload_n 0, 1) := by decide +kernel
theorem dX4_writersOf_13 : decode cX4_writersOf 13 = .ok (.getfield 19, 3) := by decide +kernel
theorem dX4_writersOf_16 : decode cX4_writersOf 16 = .ok (.iload_n 3, 1) := by decide +kernel
theorem dX4_writersOf_17 : decode cX4_writersOf 17 = .ok (.aaload, 1) := by decide +kernel
theorem dX4_writersOf_18 : decode cX4_writersOf 18 = .ok (.invokevirtual 83, 3) := by decide +kernel
theorem dX4_writersOf_21 : decode cX4_writersOf 21 = .ok (.ifCond .eq 19, 3) := by decide +kernel
theorem dX4_writersOf_24 : decode cX4_writersOf 24 = .ok (.aload_n 0, 1) := by decide +kernel
theorem dX4_writersOf_25 : decode cX4_writersOf 25 = .ok (.getfield 19, 3) := by decide +kernel
theorem dX4_writersOf_28 : decode cX4_writersOf 28 = .ok (.iload_n 3, 1) := by decide +kernel
theorem dX4_writersOf_29 : decode cX4_writersOf 29 = .ok (.aaload, 1) := by decide +kernel
theorem dX4_writersOf_30 : decode cX4_writersOf 30 = .ok (.iload_n 1, 1) := by decide +kernel
theorem dX4_writersOf_31 : decode cX4_writersOf 31 = .ok (.invokevirtual 86, 3) := by decide +kernel
theorem dX4_writersOf_34 : decode cX4_writersOf 34 = .ok (.ifCond .eq 6, 3) := by decide +kernel
theorem dX4_writersOf_37 : decode cX4_writersOf 37 = .ok (.iinc 2 1, 3) := by decide +kernel
theorem dX4_writersOf_40 : decode cX4_writersOf 40 = .ok (.iinc 3 1, 3) := by decide +kernel
theorem dX4_writersOf_43 : decode cX4_writersOf 43 = .ok (.goto (-39), 3) := by decide +kernel
theorem dX4_writersOf_46 : decode cX4_writersOf 46 = .ok (.iload_n 2, 1) := by decide +kernel
theorem dX4_writersOf_47 : decode cX4_writersOf 47 = .ok (.ireturn, 1) := by decide +kernel
theorem dX4_seersOf_0 : decode cX4_seersOf 0 = .ok (.iconst 0, 1) := by decide +kernel
theorem dX4_seersOf_1 : decode cX4_seersOf 1 = .ok (.istore_n 3, 1) := by decide +kernel
theorem dX4_seersOf_2 : decode cX4_seersOf 2 = .ok (.iconst 0, 1) := by decide +kernel
theorem dX4_seersOf_3 : decode cX4_seersOf 3 = .ok (.istore 4, 2) := by decide +kernel
theorem dX4_seersOf_5 : decode cX4_seersOf 5 = .ok (.iload 4, 2) := by decide +kernel
theorem dX4_seersOf_7 : decode cX4_seersOf 7 = .ok (.aload_n 0, 1) := by decide +kernel
theorem dX4_seersOf_8 : decode cX4_seersOf 8 = .ok (.getfield 44, 3) := by decide +kernel
theorem dX4_seersOf_11 : decode cX4_seersOf 11 = .ok (.if_icmp .ge 42, 3) := by decide +kernel
theorem dX4_seersOf_14 : decode cX4_seersOf 14 = .ok (.aload_n 0, 1) := by decide +kernel
theorem dX4_seersOf_15 : decode cX4_seersOf 15 = .ok (.getfield 19, 3) := by decide +kernel
theorem dX4_seersOf_18 : decode cX4_seersOf 18 = .ok (.iload 4, 2) := by decide +kernel
theorem dX4_seersOf_20 : decode cX4_seersOf 20 = .ok (.aaload, 1) := by decide +kernel
theorem dX4_seersOf_21 : decode cX4_seersOf 21 = .ok (.astore 5, 2) := by decide +kernel
theorem dX4_seersOf_23 : decode cX4_seersOf 23 = .ok (.aload 5, 2) := by decide +kernel
theorem dX4_seersOf_25 : decode cX4_seersOf 25 = .ok (.invokevirtual 83, 3) := by decide +kernel
theorem dX4_seersOf_28 : decode cX4_seersOf 28 = .ok (.ifCond .eq 19, 3) := by decide +kernel
theorem dX4_seersOf_31 : decode cX4_seersOf 31 = .ok (.aload_n 1, 1) := by decide +kernel
theorem dX4_seersOf_32 : decode cX4_seersOf 32 = .ok (.aload 5, 2) := by decide +kernel
theorem dX4_seersOf_34 : decode cX4_seersOf 34 = .ok (.getfield 90, 3) := by decide +kernel
theorem dX4_seersOf_37 : decode cX4_seersOf 37 = .ok (.invokevirtual 91, 3) := by decide +kernel
theorem dX4_seersOf_40 : decode cX4_seersOf 40 = .ok (.iload_n 2, 1) := by decide +kernel
theorem dX4_seersOf_41 : decode cX4_seersOf 41 = .ok (.if_icmp .ne 6, 3) := by decide +kernel
theorem dX4_seersOf_44 : decode cX4_seersOf 44 = .ok (.iinc 3 1, 3) := by decide +kernel
theorem dX4_seersOf_47 : decode cX4_seersOf 47 = .ok (.iinc 4 1, 3) := by decide +kernel
theorem dX4_seersOf_50 : decode cX4_seersOf 50 = .ok (.goto (-45), 3) := by decide +kernel
theorem dX4_seersOf_53 : decode cX4_seersOf 53 = .ok (.iload_n 3, 1) := by decide +kernel
theorem dX4_seersOf_54 : decode cX4_seersOf 54 = .ok (.ireturn, 1) := by decide +kernel
theorem dX4_payersOf_0 : decode cX4_payersOf 0 = .ok (.iconst 0, 1) := by decide +kernel
theorem dX4_payersOf_1 : decode cX4_payersOf 1 = .ok (.istore_n 3, 1) := by decide +kernel
theorem dX4_payersOf_2 : decode cX4_payersOf 2 = .ok (.iconst 0, 1) := by decide +kernel
theorem dX4_payersOf_3 : decode cX4_payersOf 3 = .ok (.istore 4, 2) := by decide +kernel
theorem dX4_payersOf_5 : decode cX4_payersOf 5 = .ok (.iload 4, 2) := by decide +kernel
theorem dX4_payersOf_7 : decode cX4_payersOf 7 = .ok (.aload_n 0, 1) := by decide +kernel
theorem dX4_payersOf_8 : decode cX4_payersOf 8 = .ok (.getfield 44, 3) := by decide +kernel
theorem dX4_payersOf_11 : decode cX4_payersOf 11 = .ok (.if_icmp .ge 42, 3) := by decide +kernel
theorem dX4_payersOf_14 : decode cX4_payersOf 14 = .ok (.aload_n 0, 1) := by decide +kernel
theorem dX4_payersOf_15 : decode cX4_payersOf 15 = .ok (.getfield 19, 3) := by decide +kernel
theorem dX4_payersOf_18 : decode cX4_payersOf 18 = .ok (.iload 4, 2) := by decide +kernel
theorem dX4_payersOf_20 : decode cX4_payersOf 20 = .ok (.aaload, 1) := by decide +kernel
theorem dX4_payersOf_21 : decode cX4_payersOf 21 = .ok (.astore 5, 2) := by decide +kernel
theorem dX4_payersOf_23 : decode cX4_payersOf 23 = .ok (.aload 5, 2) := by decide +kernel
theorem dX4_payersOf_25 : decode cX4_payersOf 25 = .ok (.invokevirtual 95, 3) := by decide +kernel
theorem dX4_payersOf_28 : decode cX4_payersOf 28 = .ok (.ifCond .eq 19, 3) := by decide +kernel
theorem dX4_payersOf_31 : decode cX4_payersOf 31 = .ok (.aload_n 1, 1) := by decide +kernel
theorem dX4_payersOf_32 : decode cX4_payersOf 32 = .ok (.aload 5, 2) := by decide +kernel
theorem dX4_payersOf_34 : decode cX4_payersOf 34 = .ok (.getfield 90, 3) := by decide +kernel
theorem dX4_payersOf_37 : decode cX4_payersOf 37 = .ok (.invokevirtual 91, 3) := by decide +kernel
theorem dX4_payersOf_40 : decode cX4_payersOf 40 = .ok (.iload_n 2, 1) := by decide +kernel
theorem dX4_payersOf_41 : decode cX4_payersOf 41 = .ok (.if_icmp .ne 6, 3) := by decide +kernel
theorem dX4_payersOf_44 : decode cX4_payersOf 44 = .ok (.iinc 3 1, 3) := by decide +kernel
theorem dX4_payersOf_47 : decode cX4_payersOf 47 = .ok (.iinc 4 1, 3) := by decide +kernel
theorem dX4_payersOf_50 : decode cX4_payersOf 50 = .ok (.goto (-45), 3) := by decide +kernel
theorem dX4_payersOf_53 : decode cX4_payersOf 53 = .ok (.iload_n 3, 1) := by decide +kernel
theorem dX4_payersOf_54 : decode cX4_payersOf 54 = .ok (.ireturn, 1) := by decide +kernel
theorem dX4_placesSeen_0 : decode cX4_placesSeen 0 = .ok (.iconst 0, 1) := by decide +kernel
theorem dX4_placesSeen_1 : decode cX4_placesSeen 1 = .ok (.istore_n 3, 1) := by decide +kernel
theorem dX4_placesSeen_2 : decode cX4_placesSeen 2 = .ok (.iconst 0, 1) := by decide +kernel
theorem dX4_placesSeen_3 : decode cX4_placesSeen 3 = .ok (.istore 4, 2) := by decide +kernel
theorem dX4_placesSeen_5 : decode cX4_placesSeen 5 = .ok (.iload 4, 2) := by decide +kernel
theorem dX4_placesSeen_7 : decode cX4_placesSeen 7 = .ok (.aload_n 0, 1) := by decide +kernel
theorem dX4_placesSeen_8 : decode cX4_placesSeen 8 = .ok (.getfield 44, 3) := by decide +kernel
theorem dX4_placesSeen_11 : decode cX4_placesSeen 11 = .ok (.if_icmp .ge 57, 3) := by decide +kernel
theorem dX4_placesSeen_14 : decode cX4_placesSeen 14 = .ok (.iload 4, 2) := by decide +kernel
theorem dX4_placesSeen_16 : decode cX4_placesSeen 16 = .ok (.iload_n 2, 1) := by decide +kernel
theorem dX4_placesSeen_17 : decode cX4_placesSeen 17 = .ok (.if_icmp .eq 45, 3) := by decide +kernel
theorem dX4_placesSeen_20 : decode cX4_placesSeen 20 = .ok (.aload_n 0, 1) := by decide +kernel
theorem dX4_placesSeen_21 : decode cX4_placesSeen 21 = .ok (.getfield 19, 3) := by decide +kernel
theorem dX4_placesSeen_24 : decode cX4_placesSeen 24 = .ok (.iload 4, 2) := by decide +kernel
theorem dX4_placesSeen_26 : decode cX4_placesSeen 26 = .ok (.aaload, 1) := by decide +kernel
theorem dX4_placesSeen_27 : decode cX4_placesSeen 27 = .ok (.invokevirtual 83, 3) := by decide +kernel
theorem dX4_placesSeen_30 : decode cX4_placesSeen 30 = .ok (.ifCond .eq 32, 3) := by decide +kernel
theorem dX4_placesSeen_33 : decode cX4_placesSeen 33 = .ok (.aload_n 1, 1) := by decide +kernel
theorem dX4_placesSeen_34 : decode cX4_placesSeen 34 = .ok (.aload_n 0, 1) := by decide +kernel
theorem dX4_placesSeen_35 : decode cX4_placesSeen 35 = .ok (.getfield 19, 3) := by decide +kernel
theorem dX4_placesSeen_38 : decode cX4_placesSeen 38 = .ok (.iload 4, 2) := by decide +kernel
theorem dX4_placesSeen_40 : decode cX4_placesSeen 40 = .ok (.aaload, 1) := by decide +kernel
theorem dX4_placesSeen_41 : decode cX4_placesSeen 41 = .ok (.getfield 90, 3) := by decide +kernel
theorem dX4_placesSeen_44 : decode cX4_placesSeen 44 = .ok (.invokevirtual 91, 3) := by decide +kernel
theorem dX4_placesSeen_47 : decode cX4_placesSeen 47 = .ok (.istore 5, 2) := by decide +kernel
theorem dX4_placesSeen_49 : decode cX4_placesSeen 49 = .ok (.iload 5, 2) := by decide +kernel
theorem dX4_placesSeen_51 : decode cX4_placesSeen 51 = .ok (.iconst (-1), 1) := by decide +kernel
theorem dX4_placesSeen_52 : decode cX4_placesSeen 52 = .ok (.if_icmp .eq 10, 3) := by decide +kernel
theorem dX4_placesSeen_55 : decode cX4_placesSeen 55 = .ok (.iload_n 3, 1) := by decide +kernel
theorem dX4_placesSeen_56 : decode cX4_placesSeen 56 = .ok (.iconst 1, 1) := by decide +kernel
theorem dX4_placesSeen_57 : decode cX4_placesSeen 57 = .ok (.iload 5, 2) := by decide +kernel
theorem dX4_placesSeen_59 : decode cX4_placesSeen 59 = .ok (.ishl, 1) := by decide +kernel
theorem dX4_placesSeen_60 : decode cX4_placesSeen 60 = .ok (.ior, 1) := by decide +kernel
theorem dX4_placesSeen_61 : decode cX4_placesSeen 61 = .ok (.istore_n 3, 1) := by decide +kernel
theorem dX4_placesSeen_62 : decode cX4_placesSeen 62 = .ok (.iinc 4 1, 3) := by decide +kernel
theorem dX4_placesSeen_65 : decode cX4_placesSeen 65 = .ok (.goto (-60), 3) := by decide +kernel
theorem dX4_placesSeen_68 : decode cX4_placesSeen 68 = .ok (.iload_n 3, 1) := by decide +kernel
theorem dX4_placesSeen_69 : decode cX4_placesSeen 69 = .ok (.ireturn, 1) := by decide +kernel
theorem dX4_oldVersions_0 : decode cX4_oldVersions 0 = .ok (.iconst 0, 1) := by decide +kernel
theorem dX4_oldVersions_1 : decode cX4_oldVersions 1 = .ok (.istore_n 1, 1) := by decide +kernel
theorem dX4_oldVersions_2 : decode cX4_oldVersions 2 = .ok (.iconst 0, 1) := by decide +kernel
theorem dX4_oldVersions_3 : decode cX4_oldVersions 3 = .ok (.istore_n 2, 1) := by decide +kernel
theorem dX4_oldVersions_4 : decode cX4_oldVersions 4 = .ok (.iload_n 2, 1) := by decide +kernel
theorem dX4_oldVersions_5 : decode cX4_oldVersions 5 = .ok (.bipush 12, 2) := by decide +kernel
theorem dX4_oldVersions_7 : decode cX4_oldVersions 7 = .ok (.if_icmp .ge 23, 3) := by decide +kernel
theorem dX4_oldVersions_10 : decode cX4_oldVersions 10 = .ok (.iload_n 1, 1) := by decide +kernel
theorem dX4_oldVersions_11 : decode cX4_oldVersions 11 = .ok (.aload_n 0, 1) := by decide +kernel
theorem dX4_oldVersions_12 : decode cX4_oldVersions 12 = .ok (.getfield 11, 3) := by decide +kernel
theorem dX4_oldVersions_15 : decode cX4_oldVersions 15 = .ok (.iload_n 2, 1) := by decide +kernel
theorem dX4_oldVersions_16 : decode cX4_oldVersions 16 = .ok (.aaload, 1) := by decide +kernel
theorem dX4_oldVersions_17 : decode cX4_oldVersions 17 = .ok (.getfield 98, 3) := by decide +kernel
theorem dX4_oldVersions_20 : decode cX4_oldVersions 20 = .ok (.iconst 1, 1) := by decide +kernel
theorem dX4_oldVersions_21 : decode cX4_oldVersions 21 = .ok (.isub, 1) := by decide +kernel
theorem dX4_oldVersions_22 : decode cX4_oldVersions 22 = .ok (.iadd, 1) := by decide +kernel
theorem dX4_oldVersions_23 : decode cX4_oldVersions 23 = .ok (.istore_n 1, 1) := by decide +kernel
theorem dX4_oldVersions_24 : decode cX4_oldVersions 24 = .ok (.iinc 2 1, 3) := by decide +kernel
theorem dX4_oldVersions_27 : decode cX4_oldVersions 27 = .ok (.goto (-23), 3) := by decide +kernel
theorem dX4_oldVersions_30 : decode cX4_oldVersions 30 = .ok (.iload_n 1, 1) := by decide +kernel
theorem dX4_oldVersions_31 : decode cX4_oldVersions 31 = .ok (.ireturn, 1) := by decide +kernel
theorem dX4_oldVersionsSeenBy_0 : decode cX4_oldVersionsSeenBy 0 = .ok (.iconst 0, 1) := by decide +kernel
theorem dX4_oldVersionsSeenBy_1 : decode cX4_oldVersionsSeenBy 1 = .ok (.istore_n 2, 1) := by decide +kernel
theorem dX4_oldVersionsSeenBy_2 : decode cX4_oldVersionsSeenBy 2 = .ok (.iconst 0, 1) := by decide +kernel
theorem dX4_oldVersionsSeenBy_3 : decode cX4_oldVersionsSeenBy 3 = .ok (.istore_n 3, 1) := by decide +kernel
theorem dX4_oldVersionsSeenBy_4 : decode cX4_oldVersionsSeenBy 4 = .ok (.iload_n 3, 1) := by decide +kernel
theorem dX4_oldVersionsSeenBy_5 : decode cX4_oldVersionsSeenBy 5 = .ok (.bipush 12, 2) := by decide +kernel
theorem dX4_oldVersionsSeenBy_7 : decode cX4_oldVersionsSeenBy 7 = .ok (.if_icmp .ge 28, 3) := by decide +kernel
theorem dX4_oldVersionsSeenBy_10 : decode cX4_oldVersionsSeenBy 10 = .ok (.aload_n 0, 1) := by decide +kernel
theorem dX4_oldVersionsSeenBy_11 : decode cX4_oldVersionsSeenBy 11 = .ok (.getfield 11, 3) := by decide +kernel
theorem dX4_oldVersionsSeenBy_14 : decode cX4_oldVersionsSeenBy 14 = .ok (.iload_n 3, 1) := by decide +kernel
theorem dX4_oldVersionsSeenBy_15 : decode cX4_oldVersionsSeenBy 15 = .ok (.aaload, 1) := by decide +kernel
theorem dX4_oldVersionsSeenBy_16 : decode cX4_oldVersionsSeenBy 16 = .ok (.aload_n 1, 1) := by decide +kernel
theorem dX4_oldVersionsSeenBy_17 : decode cX4_oldVersionsSeenBy 17 = .ok (.getfield 90, 3) := by decide +kernel
theorem dX4_oldVersionsSeenBy_20 : decode cX4_oldVersionsSeenBy 20 = .ok (.invokevirtual 91, 3) := by decide +kernel
theorem dX4_oldVersionsSeenBy_23 : decode cX4_oldVersionsSeenBy 23 = .ok (.ifCond .le 6, 3) := by decide +kernel
theorem dX4_oldVersionsSeenBy_26 : decode cX4_oldVersionsSeenBy 26 = .ok (.iinc 2 1, 3) := by decide +kernel
theorem dX4_oldVersionsSeenBy_29 : decode cX4_oldVersionsSeenBy 29 = .ok (.iinc 3 1, 3) := by decide +kernel
theorem dX4_oldVersionsSeenBy_32 : decode cX4_oldVersionsSeenBy 32 = .ok (.goto (-28), 3) := by decide +kernel
theorem dX4_oldVersionsSeenBy_35 : decode cX4_oldVersionsSeenBy 35 = .ok (.iload_n 2, 1) := by decide +kernel
theorem dX4_oldVersionsSeenBy_36 : decode cX4_oldVersionsSeenBy 36 = .ok (.ireturn, 1) := by decide +kernel
theorem dX4_sumSeenBy_0 : decode cX4_sumSeenBy 0 = .ok (.iconst 0, 1) := by decide +kernel
theorem dX4_sumSeenBy_1 : decode cX4_sumSeenBy 1 = .ok (.istore_n 2, 1) := by decide +kernel
theorem dX4_sumSeenBy_2 : decode cX4_sumSeenBy 2 = .ok (.iconst 0, 1) := by decide +kernel
theorem dX4_sumSeenBy_3 : decode cX4_sumSeenBy 3 = .ok (.istore_n 3, 1) := by decide +kernel
theorem dX4_sumSeenBy_4 : decode cX4_sumSeenBy 4 = .ok (.iload_n 3, 1) := by decide +kernel
theorem dX4_sumSeenBy_5 : decode cX4_sumSeenBy 5 = .ok (.bipush 12, 2) := by decide +kernel
theorem dX4_sumSeenBy_7 : decode cX4_sumSeenBy 7 = .ok (.if_icmp .ge 25, 3) := by decide +kernel
theorem dX4_sumSeenBy_10 : decode cX4_sumSeenBy 10 = .ok (.iload_n 2, 1) := by decide +kernel
theorem dX4_sumSeenBy_11 : decode cX4_sumSeenBy 11 = .ok (.aload_n 0, 1) := by decide +kernel
theorem dX4_sumSeenBy_12 : decode cX4_sumSeenBy 12 = .ok (.getfield 11, 3) := by decide +kernel
theorem dX4_sumSeenBy_15 : decode cX4_sumSeenBy 15 = .ok (.iload_n 3, 1) := by decide +kernel
theorem dX4_sumSeenBy_16 : decode cX4_sumSeenBy 16 = .ok (.aaload, 1) := by decide +kernel
theorem dX4_sumSeenBy_17 : decode cX4_sumSeenBy 17 = .ok (.aload_n 1, 1) := by decide +kernel
theorem dX4_sumSeenBy_18 : decode cX4_sumSeenBy 18 = .ok (.getfield 90, 3) := by decide +kernel
theorem dX4_sumSeenBy_21 : decode cX4_sumSeenBy 21 = .ok (.invokevirtual 101, 3) := by decide +kernel
theorem dX4_sumSeenBy_24 : decode cX4_sumSeenBy 24 = .ok (.iadd, 1) := by decide +kernel
theorem dX4_sumSeenBy_25 : decode cX4_sumSeenBy 25 = .ok (.istore_n 2, 1) := by decide +kernel
theorem dX4_sumSeenBy_26 : decode cX4_sumSeenBy 26 = .ok (.iinc 3 1, 3) := by decide +kernel
theorem dX4_sumSeenBy_29 : decode cX4_sumSeenBy 29 = .ok (.goto (-25), 3) := by decide +kernel
theorem dX4_sumSeenBy_32 : decode cX4_sumSeenBy 32 = .ok (.iload_n 2, 1) := by decide +kernel
theorem dX4_sumSeenBy_33 : decode cX4_sumSeenBy 33 = .ok (.ireturn, 1) := by decide +kernel
theorem dX4_removeUnseen_0 : decode cX4_removeUnseen 0 = .ok (.iconst 0, 1) := by decide +kernel
theorem dX4_removeUnseen_1 : decode cX4_removeUnseen 1 = .ok (.istore_n 1, 1) := by decide +kernel
theorem dX4_removeUnseen_2 : decode cX4_removeUnseen 2 = .ok (.iconst 0, 1) := by decide +kernel
theorem dX4_removeUnseen_3 : decode cX4_removeUnseen 3 = .ok (.istore_n 2, 1) := by decide +kernel
theorem dX4_removeUnseen_4 : decode cX4_removeUnseen 4 = .ok (.iload_n 2, 1) := by decide +kernel
theorem dX4_removeUnseen_5 : decode cX4_removeUnseen 5 = .ok (.bipush 12, 2) := by decide +kernel
theorem dX4_removeUnseen_7 : decode cX4_removeUnseen 7 = .ok (.if_icmp .ge 32, 3) := by decide +kernel
theorem dX4_removeUnseen_10 : decode cX4_removeUnseen 10 = .ok (.iload_n 1, 1) := by decide +kernel
theorem dX4_removeUnseen_11 : decode cX4_removeUnseen 11 = .ok (.aload_n 0, 1) := by decide +kernel
theorem dX4_removeUnseen_12 : decode cX4_removeUnseen 12 = .ok (.getfield 11, 3) := by decide +kernel
theorem dX4_removeUnseen_15 : decode cX4_removeUnseen 15 = .ok (.iload_n 2, 1) := by decide +kernel
theorem dX4_removeUnseen_16 : decode cX4_removeUnseen 16 = .ok (.aaload, 1) := by decide +kernel
theorem dX4_removeUnseen_17 : decode cX4_removeUnseen 17 = .ok (.aload_n 0, 1) := by decide +kernel
theorem dX4_removeUnseen_18 : decode cX4_removeUnseen 18 = .ok (.aload_n 0, 1) := by decide +kernel
theorem dX4_removeUnseen_19 : decode cX4_removeUnseen 19 = .ok (.getfield 11, 3) := by decide +kernel
theorem dX4_removeUnseen_22 : decode cX4_removeUnseen 22 = .ok (.iload_n 2, 1) := by decide +kernel
theorem dX4_removeUnseen_23 : decode cX4_removeUnseen 23 = .ok (.aaload, 1) := by decide +kernel
theorem dX4_removeUnseen_24 : decode cX4_removeUnseen 24 = .ok (.iconst (-1), 1) := by decide +kernel
theorem dX4_removeUnseen_25 : decode cX4_removeUnseen 25 = .ok (.invokevirtual 104, 3) := by decide +kernel
theorem dX4_removeUnseen_28 : decode cX4_removeUnseen 28 = .ok (.invokevirtual 108, 3) := by decide +kernel
theorem dX4_removeUnseen_31 : decode cX4_removeUnseen 31 = .ok (.iadd, 1) := by decide +kernel
theorem dX4_removeUnseen_32 : decode cX4_removeUnseen 32 = .ok (.istore_n 1, 1) := by decide +kernel
theorem dX4_removeUnseen_33 : decode cX4_removeUnseen 33 = .ok (.iinc 2 1, 3) := by decide +kernel
theorem dX4_removeUnseen_36 : decode cX4_removeUnseen 36 = .ok (.goto (-32), 3) := by decide +kernel
theorem dX4_removeUnseen_39 : decode cX4_removeUnseen 39 = .ok (.aload_n 0, 1) := by decide +kernel
theorem dX4_removeUnseen_40 : decode cX4_removeUnseen 40 = .ok (.dup, 1) := by decide +kernel
theorem dX4_removeUnseen_41 : decode cX4_removeUnseen 41 = .ok (.getfield 62, 3) := by decide +kernel
theorem dX4_removeUnseen_44 : decode cX4_removeUnseen 44 = .ok (.iload_n 1, 1) := by decide +kernel
theorem dX4_removeUnseen_45 : decode cX4_removeUnseen 45 = .ok (.iadd, 1) := by decide +kernel
theorem dX4_removeUnseen_46 : decode cX4_removeUnseen 46 = .ok (.putfield 62, 3) := by decide +kernel
theorem dX4_removeUnseen_49 : decode cX4_removeUnseen 49 = .ok (.iload_n 1, 1) := by decide +kernel
theorem dX4_removeUnseen_50 : decode cX4_removeUnseen 50 = .ok (.ireturn, 1) := by decide +kernel
theorem dX4_shareOf_0 : decode cX4_shareOf 0 = .ok (.iload_n 2, 1) := by decide +kernel
theorem dX4_shareOf_1 : decode cX4_shareOf 1 = .ok (.ifCond .gt 5, 3) := by decide +kernel
theorem dX4_shareOf_4 : decode cX4_shareOf 4 = .ok (.iconst 0, 1) := by decide +kernel
theorem dX4_shareOf_5 : decode cX4_shareOf 5 = .ok (.ireturn, 1) := by decide +kernel
theorem dX4_shareOf_6 : decode cX4_shareOf 6 = .ok (.aload_n 0, 1) := by decide +kernel
theorem dX4_shareOf_7 : decode cX4_shareOf 7 = .ok (.aload_n 1, 1) := by decide +kernel
theorem dX4_shareOf_8 : decode cX4_shareOf 8 = .ok (.iload_n 2, 1) := by decide +kernel
theorem dX4_shareOf_9 : decode cX4_shareOf 9 = .ok (.invokevirtual 111, 3) := by decide +kernel
theorem dX4_shareOf_12 : decode cX4_shareOf 12 = .ok (.istore_n 3, 1) := by decide +kernel
theorem dX4_shareOf_13 : decode cX4_shareOf 13 = .ok (.iload_n 3, 1) := by decide +kernel
theorem dX4_shareOf_14 : decode cX4_shareOf 14 = .ok (.ifCond .ne 7, 3) := by decide +kernel
theorem dX4_shareOf_17 : decode cX4_shareOf 17 = .ok (.iconst 0, 1) := by decide +kernel
theorem dX4_shareOf_18 : decode cX4_shareOf 18 = .ok (.goto 13, 3) := by decide +kernel
theorem dX4_shareOf_21 : decode cX4_shareOf 21 = .ok (.aload_n 0, 1) := by decide +kernel
theorem dX4_shareOf_22 : decode cX4_shareOf 22 = .ok (.getfield 29, 3) := by decide +kernel
theorem dX4_shareOf_25 : decode cX4_shareOf 25 = .ok (.iload_n 3, 1) := by decide +kernel
theorem dX4_shareOf_26 : decode cX4_shareOf 26 = .ok (.iadd, 1) := by decide +kernel
theorem dX4_shareOf_27 : decode cX4_shareOf 27 = .ok (.iconst 1, 1) := by decide +kernel
theorem dX4_shareOf_28 : decode cX4_shareOf 28 = .ok (.isub, 1) := by decide +kernel
theorem dX4_shareOf_29 : decode cX4_shareOf 29 = .ok (.iload_n 3, 1) := by decide +kernel
theorem dX4_shareOf_30 : decode cX4_shareOf 30 = .ok (.idiv, 1) := by decide +kernel
theorem dX4_shareOf_31 : decode cX4_shareOf 31 = .ok (.ireturn, 1) := by decide +kernel
theorem dX4_dueOf_0 : decode cX4_dueOf 0 = .ok (.aload_n 1, 1) := by decide +kernel
theorem dX4_dueOf_1 : decode cX4_dueOf 1 = .ok (.invokevirtual 95, 3) := by decide +kernel
theorem dX4_dueOf_4 : decode cX4_dueOf 4 = .ok (.ifCond .ne 5, 3) := by decide +kernel
theorem dX4_dueOf_7 : decode cX4_dueOf 7 = .ok (.iconst 0, 1) := by decide +kernel
theorem dX4_dueOf_8 : decode cX4_dueOf 8 = .ok (.ireturn, 1) := by decide +kernel
theorem dX4_dueOf_9 : decode cX4_dueOf 9 = .ok (.iconst 0, 1) := by decide +kernel
theorem dX4_dueOf_10 : decode cX4_dueOf 10 = .ok (.istore_n 2, 1) := by decide +kernel
theorem dX4_dueOf_11 : decode cX4_dueOf 11 = .ok (.iconst 0, 1) := by decide +kernel
theorem dX4_dueOf_12 : decode cX4_dueOf 12 = .ok (.istore_n 3, 1) := by decide +kernel
theorem dX4_dueOf_13 : decode cX4_dueOf 13 = .ok (.iload_n 3, 1) := by decide +kernel
theorem dX4_dueOf_14 : decode cX4_dueOf 14 = .ok (.bipush 12, 2) := by decide +kernel
theorem dX4_dueOf_16 : decode cX4_dueOf 16 = .ok (.if_icmp .ge 35, 3) := by decide +kernel
theorem dX4_dueOf_19 : decode cX4_dueOf 19 = .ok (.iload_n 2, 1) := by decide +kernel
theorem dX4_dueOf_20 : decode cX4_dueOf 20 = .ok (.aload_n 0, 1) := by decide +kernel
theorem dX4_dueOf_21 : decode cX4_dueOf 21 = .ok (.aload_n 0, 1) := by decide +kernel
theorem dX4_dueOf_22 : decode cX4_dueOf 22 = .ok (.getfield 11, 3) := by decide +kernel
theorem dX4_dueOf_25 : decode cX4_dueOf 25 = .ok (.iload_n 3, 1) := by decide +kernel
theorem dX4_dueOf_26 : decode cX4_dueOf 26 = .ok (.aaload, 1) := by decide +kernel
theorem dX4_dueOf_27 : decode cX4_dueOf 27 = .ok (.aload_n 0, 1) := by decide +kernel
theorem dX4_dueOf_28 : decode cX4_dueOf 28 = .ok (.getfield 11, 3) := by decide +kernel
theorem dX4_dueOf_31 : decode cX4_dueOf 31 = .ok (.iload_n 3, 1) := by decide +kernel
theorem dX4_dueOf_32 : decode cX4_dueOf 32 = .ok (.aaload, 1) := by decide +kernel
theorem dX4_dueOf_33 : decode cX4_dueOf 33 = .ok (.aload_n 1, 1) := by decide +kernel
theorem dX4_dueOf_34 : decode cX4_dueOf 34 = .ok (.getfield 90, 3) := by decide +kernel
theorem dX4_dueOf_37 : decode cX4_dueOf 37 = .ok (.invokevirtual 91, 3) := by decide +kernel
theorem dX4_dueOf_40 : decode cX4_dueOf 40 = .ok (.invokevirtual 114, 3) := by decide +kernel
theorem dX4_dueOf_43 : decode cX4_dueOf 43 = .ok (.iadd, 1) := by decide +kernel
theorem dX4_dueOf_44 : decode cX4_dueOf 44 = .ok (.istore_n 2, 1) := by decide +kernel
theorem dX4_dueOf_45 : decode cX4_dueOf 45 = .ok (.iinc 3 1, 3) := by decide +kernel
theorem dX4_dueOf_48 : decode cX4_dueOf 48 = .ok (.goto (-35), 3) := by decide +kernel
theorem dX4_dueOf_51 : decode cX4_dueOf 51 = .ok (.iload_n 2, 1) := by decide +kernel
theorem dX4_dueOf_52 : decode cX4_dueOf 52 = .ok (.ireturn, 1) := by decide +kernel
theorem dX4_tellDues_0 : decode cX4_tellDues 0 = .ok (.iconst 0, 1) := by decide +kernel
theorem dX4_tellDues_1 : decode cX4_tellDues 1 = .ok (.istore_n 1, 1) := by decide +kernel
theorem dX4_tellDues_2 : decode cX4_tellDues 2 = .ok (.iload_n 1, 1) := by decide +kernel
theorem dX4_tellDues_3 : decode cX4_tellDues 3 = .ok (.aload_n 0, 1) := by decide +kernel
theorem dX4_tellDues_4 : decode cX4_tellDues 4 = .ok (.getfield 44, 3) := by decide +kernel
theorem dX4_tellDues_7 : decode cX4_tellDues 7 = .ok (.if_icmp .ge 25, 3) := by decide +kernel
theorem dX4_tellDues_10 : decode cX4_tellDues 10 = .ok (.aload_n 0, 1) := by decide +kernel
theorem dX4_tellDues_11 : decode cX4_tellDues 11 = .ok (.getfield 33, 3) := by decide +kernel
theorem dX4_tellDues_14 : decode cX4_tellDues 14 = .ok (.iload_n 1, 1) := by decide +kernel
theorem dX4_tellDues_15 : decode cX4_tellDues 15 = .ok (.aload_n 0, 1) := by decide +kernel
theorem dX4_tellDues_16 : decode cX4_tellDues 16 = .ok (.aload_n 0, 1) := by decide +kernel
theorem dX4_tellDues_17 : decode cX4_tellDues 17 = .ok (.getfield 19, 3) := by decide +kernel
theorem dX4_tellDues_20 : decode cX4_tellDues 20 = .ok (.iload_n 1, 1) := by decide +kernel
theorem dX4_tellDues_21 : decode cX4_tellDues 21 = .ok (.aaload, 1) := by decide +kernel
theorem dX4_tellDues_22 : decode cX4_tellDues 22 = .ok (.invokevirtual 117, 3) := by decide +kernel
theorem dX4_tellDues_25 : decode cX4_tellDues 25 = .ok (.iastore, 1) := by decide +kernel
theorem dX4_tellDues_26 : decode cX4_tellDues 26 = .ok (.iinc 1 1, 3) := by decide +kernel
theorem dX4_tellDues_29 : decode cX4_tellDues 29 = .ok (.goto (-27), 3) := by decide +kernel
theorem dX4_tellDues_32 : decode cX4_tellDues 32 = .ok (.return_, 1) := by decide +kernel
theorem dX4_letTicksPass_0 : decode cX4_letTicksPass 0 = .ok (.iconst 1, 1) := by decide +kernel
theorem dX4_letTicksPass_1 : decode cX4_letTicksPass 1 = .ok (.istore_n 3, 1) := by decide +kernel
theorem dX4_letTicksPass_2 : decode cX4_letTicksPass 2 = .ok (.iconst 0, 1) := by decide +kernel
theorem dX4_letTicksPass_3 : decode cX4_letTicksPass 3 = .ok (.istore 4, 2) := by decide +kernel
theorem dX4_letTicksPass_5 : decode cX4_letTicksPass 5 = .ok (.iload 4, 2) := by decide +kernel
theorem dX4_letTicksPass_7 : decode cX4_letTicksPass 7 = .ok (.iload_n 1, 1) := by decide +kernel
theorem dX4_letTicksPass_8 : decode cX4_letTicksPass 8 = .ok (.if_icmp .ge 86, 3) := by decide +kernel
theorem dX4_letTicksPass_11 : decode cX4_letTicksPass 11 = .ok (.iload_n 3, 1) := by decide +kernel
theorem dX4_letTicksPass_12 : decode cX4_letTicksPass 12 = .ok (.ifCond .eq 7, 3) := by decide +kernel
theorem dX4_letTicksPass_15 : decode cX4_letTicksPass 15 = .ok (.aload_n 0, 1) := by decide +kernel
theorem dX4_letTicksPass_16 : decode cX4_letTicksPass 16 = .ok (.invokevirtual 121, 3) := by decide +kernel
theorem dX4_letTicksPass_19 : decode cX4_letTicksPass 19 = .ok (.aload_n 0, 1) := by decide +kernel
theorem dX4_letTicksPass_20 : decode cX4_letTicksPass 20 = .ok (.invokevirtual 124, 3) := by decide +kernel
theorem dX4_letTicksPass_23 : decode cX4_letTicksPass 23 = .ok (.istore 5, 2) := by decide +kernel
theorem dX4_letTicksPass_25 : decode cX4_letTicksPass 25 = .ok (.aload_n 0, 1) := by decide +kernel
theorem dX4_letTicksPass_26 : decode cX4_letTicksPass 26 = .ok (.invokevirtual 127, 3) := by decide +kernel
theorem dX4_letTicksPass_29 : decode cX4_letTicksPass 29 = .ok (.istore 6, 2) := by decide +kernel
theorem dX4_letTicksPass_31 : decode cX4_letTicksPass 31 = .ok (.iload 5, 2) := by decide +kernel
theorem dX4_letTicksPass_33 : decode cX4_letTicksPass 33 = .ok (.ifCond .eq 8, 3) := by decide +kernel
theorem dX4_letTicksPass_36 : decode cX4_letTicksPass 36 = .ok (.aload_n 0, 1) := by decide +kernel
theorem dX4_letTicksPass_37 : decode cX4_letTicksPass 37 = .ok (.invokevirtual 130, 3) := by decide +kernel
theorem dX4_letTicksPass_40 : decode cX4_letTicksPass 40 = .ok (.pop, 1) := by decide +kernel
theorem dX4_letTicksPass_41 : decode cX4_letTicksPass 41 = .ok (.iload 5, 2) := by decide +kernel
theorem dX4_letTicksPass_43 : decode cX4_letTicksPass 43 = .ok (.ifCond .ne 8, 3) := by decide +kernel
theorem dX4_letTicksPass_46 : decode cX4_letTicksPass 46 = .ok (.iload 6, 2) := by decide +kernel
theorem dX4_letTicksPass_48 : decode cX4_letTicksPass 48 = .ok (.ifCond .eq 7, 3) := by decide +kernel
theorem dX4_letTicksPass_51 : decode cX4_letTicksPass 51 = .ok (.iconst 1, 1) := by decide +kernel
theorem dX4_letTicksPass_52 : decode cX4_letTicksPass 52 = .ok (.goto 4, 3) := by decide +kernel
theorem dX4_letTicksPass_55 : decode cX4_letTicksPass 55 = .ok (.iconst 0, 1) := by decide +kernel
theorem dX4_letTicksPass_56 : decode cX4_letTicksPass 56 = .ok (.istore_n 3, 1) := by decide +kernel
theorem dX4_letTicksPass_57 : decode cX4_letTicksPass 57 = .ok (.aload_n 0, 1) := by decide +kernel
theorem dX4_letTicksPass_58 : decode cX4_letTicksPass 58 = .ok (.dup, 1) := by decide +kernel
theorem dX4_letTicksPass_59 : decode cX4_letTicksPass 59 = .ok (.getfield 59, 3) := by decide +kernel
theorem dX4_letTicksPass_62 : decode cX4_letTicksPass 62 = .ok (.iconst 1, 1) := by decide +kernel
theorem dX4_letTicksPass_63 : decode cX4_letTicksPass 63 = .ok (.iadd, 1) := by decide +kernel
theorem dX4_letTicksPass_64 : decode cX4_letTicksPass 64 = .ok (.putfield 59, 3) := by decide +kernel
theorem dX4_letTicksPass_67 : decode cX4_letTicksPass 67 = .ok (.aload_n 0, 1) := by decide +kernel
theorem dX4_letTicksPass_68 : decode cX4_letTicksPass 68 = .ok (.iload_n 2, 1) := by decide +kernel
theorem dX4_letTicksPass_69 : decode cX4_letTicksPass 69 = .ok (.invokevirtual 134, 3) := by decide +kernel
theorem dX4_letTicksPass_72 : decode cX4_letTicksPass 72 = .ok (.ifCond .eq 16, 3) := by decide +kernel
theorem dX4_letTicksPass_75 : decode cX4_letTicksPass 75 = .ok (.aload_n 0, 1) := by decide +kernel
theorem dX4_letTicksPass_76 : decode cX4_letTicksPass 76 = .ok (.getfield 19, 3) := by decide +kernel
theorem dX4_letTicksPass_79 : decode cX4_letTicksPass 79 = .ok (.iload_n 2, 1) := by decide +kernel
theorem dX4_letTicksPass_80 : decode cX4_letTicksPass 80 = .ok (.aaload, 1) := by decide +kernel
theorem dX4_letTicksPass_81 : decode cX4_letTicksPass 81 = .ok (.invokevirtual 83, 3) := by decide +kernel
theorem dX4_letTicksPass_84 : decode cX4_letTicksPass 84 = .ok (.ifCond .ne 4, 3) := by decide +kernel
theorem dX4_letTicksPass_87 : decode cX4_letTicksPass 87 = .ok (.return_, 1) := by decide +kernel
theorem dX4_letTicksPass_88 : decode cX4_letTicksPass 88 = .ok (.iinc 4 1, 3) := by decide +kernel
theorem dX4_letTicksPass_91 : decode cX4_letTicksPass 91 = .ok (.goto (-86), 3) := by decide +kernel
theorem dX4_letTicksPass_94 : decode cX4_letTicksPass 94 = .ok (.return_, 1) := by decide +kernel
theorem dX4_takeDues_0 : decode cX4_takeDues 0 = .ok (.iconst 0, 1) := by decide +kernel
theorem dX4_takeDues_1 : decode cX4_takeDues 1 = .ok (.istore_n 1, 1) := by decide +kernel
theorem dX4_takeDues_2 : decode cX4_takeDues 2 = .ok (.iconst 0, 1) := by decide +kernel
theorem dX4_takeDues_3 : decode cX4_takeDues 3 = .ok (.istore_n 2, 1) := by decide +kernel
theorem dX4_takeDues_4 : decode cX4_takeDues 4 = .ok (.iload_n 2, 1) := by decide +kernel
theorem dX4_takeDues_5 : decode cX4_takeDues 5 = .ok (.aload_n 0, 1) := by decide +kernel
theorem dX4_takeDues_6 : decode cX4_takeDues 6 = .ok (.getfield 44, 3) := by decide +kernel
theorem dX4_takeDues_9 : decode cX4_takeDues 9 = .ok (.if_icmp .ge 76, 3) := by decide +kernel
theorem dX4_takeDues_12 : decode cX4_takeDues 12 = .ok (.aload_n 0, 1) := by decide +kernel
theorem dX4_takeDues_13 : decode cX4_takeDues 13 = .ok (.getfield 19, 3) := by decide +kernel
theorem dX4_takeDues_16 : decode cX4_takeDues 16 = .ok (.iload_n 2, 1) := by decide +kernel
theorem dX4_takeDues_17 : decode cX4_takeDues 17 = .ok (.aaload, 1) := by decide +kernel
theorem dX4_takeDues_18 : decode cX4_takeDues 18 = .ok (.astore_n 3, 1) := by decide +kernel
theorem dX4_takeDues_19 : decode cX4_takeDues 19 = .ok (.aload_n 3, 1) := by decide +kernel
theorem dX4_takeDues_20 : decode cX4_takeDues 20 = .ok (.invokevirtual 95, 3) := by decide +kernel
theorem dX4_takeDues_23 : decode cX4_takeDues 23 = .ok (.ifCond .eq 56, 3) := by decide +kernel
theorem dX4_takeDues_26 : decode cX4_takeDues 26 = .ok (.aload_n 3, 1) := by decide +kernel
theorem dX4_takeDues_27 : decode cX4_takeDues 27 = .ok (.getfield 137, 3) := by decide +kernel
theorem dX4_takeDues_30 : decode cX4_takeDues 30 = .ok (.aload_n 0, 1) := by decide +kernel
theorem dX4_takeDues_31 : decode cX4_takeDues 31 = .ok (.getfield 33, 3) := by decide +kernel
theorem dX4_takeDues_34 : decode cX4_takeDues 34 = .ok (.iload_n 2, 1) := by decide +kernel
theorem dX4_takeDues_35 : decode cX4_takeDues 35 = .ok (.iaload, 1) := by decide +kernel
theorem dX4_takeDues_36 : decode cX4_takeDues 36 = .ok (.if_icmp .lt 36, 3) := by decide +kernel
theorem dX4_takeDues_39 : decode cX4_takeDues 39 = .ok (.aload_n 3, 1) := by decide +kernel
theorem dX4_takeDues_40 : decode cX4_takeDues 40 = .ok (.dup, 1) := by decide +kernel
theorem dX4_takeDues_41 : decode cX4_takeDues 41 = .ok (.getfield 137, 3) := by decide +kernel
theorem dX4_takeDues_44 : decode cX4_takeDues 44 = .ok (.aload_n 0, 1) := by decide +kernel
theorem dX4_takeDues_45 : decode cX4_takeDues 45 = .ok (.getfield 33, 3) := by decide +kernel
theorem dX4_takeDues_48 : decode cX4_takeDues 48 = .ok (.iload_n 2, 1) := by decide +kernel
theorem dX4_takeDues_49 : decode cX4_takeDues 49 = .ok (.iaload, 1) := by decide +kernel
theorem dX4_takeDues_50 : decode cX4_takeDues 50 = .ok (.isub, 1) := by decide +kernel
theorem dX4_takeDues_51 : decode cX4_takeDues 51 = .ok (.putfield 137, 3) := by decide +kernel
theorem dX4_takeDues_54 : decode cX4_takeDues 54 = .ok (.aload_n 3, 1) := by decide +kernel
theorem dX4_takeDues_55 : decode cX4_takeDues 55 = .ok (.dup, 1) := by decide +kernel
theorem dX4_takeDues_56 : decode cX4_takeDues 56 = .ok (.getfield 80, 3) := by decide +kernel
theorem dX4_takeDues_59 : decode cX4_takeDues 59 = .ok (.aload_n 0, 1) := by decide +kernel
theorem dX4_takeDues_60 : decode cX4_takeDues 60 = .ok (.getfield 33, 3) := by decide +kernel
theorem dX4_takeDues_63 : decode cX4_takeDues 63 = .ok (.iload_n 2, 1) := by decide +kernel
theorem dX4_takeDues_64 : decode cX4_takeDues 64 = .ok (.iaload, 1) := by decide +kernel
theorem dX4_takeDues_65 : decode cX4_takeDues 65 = .ok (.iadd, 1) := by decide +kernel
theorem dX4_takeDues_66 : decode cX4_takeDues 66 = .ok (.putfield 80, 3) := by decide +kernel
theorem dX4_takeDues_69 : decode cX4_takeDues 69 = .ok (.goto 10, 3) := by decide +kernel
theorem dX4_takeDues_72 : decode cX4_takeDues 72 = .ok (.aload_n 3, 1) := by decide +kernel
theorem dX4_takeDues_73 : decode cX4_takeDues 73 = .ok (.iconst 3, 1) := by decide +kernel
theorem dX4_takeDues_74 : decode cX4_takeDues 74 = .ok (.putfield 73, 3) := by decide +kernel
theorem dX4_takeDues_77 : decode cX4_takeDues 77 = .ok (.iconst 1, 1) := by decide +kernel
theorem dX4_takeDues_78 : decode cX4_takeDues 78 = .ok (.istore_n 1, 1) := by decide +kernel
theorem dX4_takeDues_79 : decode cX4_takeDues 79 = .ok (.iinc 2 1, 3) := by decide +kernel
theorem dX4_takeDues_82 : decode cX4_takeDues 82 = .ok (.goto (-78), 3) := by decide +kernel
theorem dX4_takeDues_85 : decode cX4_takeDues 85 = .ok (.iload_n 1, 1) := by decide +kernel
theorem dX4_takeDues_86 : decode cX4_takeDues 86 = .ok (.ireturn, 1) := by decide +kernel
theorem dX4_shortenTerms_0 : decode cX4_shortenTerms 0 = .ok (.iconst 0, 1) := by decide +kernel
theorem dX4_shortenTerms_1 : decode cX4_shortenTerms 1 = .ok (.istore_n 1, 1) := by decide +kernel
theorem dX4_shortenTerms_2 : decode cX4_shortenTerms 2 = .ok (.iconst 0, 1) := by decide +kernel
theorem dX4_shortenTerms_3 : decode cX4_shortenTerms 3 = .ok (.istore_n 2, 1) := by decide +kernel
theorem dX4_shortenTerms_4 : decode cX4_shortenTerms 4 = .ok (.iload_n 2, 1) := by decide +kernel
theorem dX4_shortenTerms_5 : decode cX4_shortenTerms 5 = .ok (.aload_n 0, 1) := by decide +kernel
theorem dX4_shortenTerms_6 : decode cX4_shortenTerms 6 = .ok (.getfield 44, 3) := by decide +kernel
theorem dX4_shortenTerms_9 : decode cX4_shortenTerms 9 = .ok (.if_icmp .ge 50, 3) := by decide +kernel
theorem dX4_shortenTerms_12 : decode cX4_shortenTerms 12 = .ok (.aload_n 0, 1) := by decide +kernel
theorem dX4_shortenTerms_13 : decode cX4_shortenTerms 13 = .ok (.getfield 19, 3) := by decide +kernel
theorem dX4_shortenTerms_16 : decode cX4_shortenTerms 16 = .ok (.iload_n 2, 1) := by decide +kernel
theorem dX4_shortenTerms_17 : decode cX4_shortenTerms 17 = .ok (.aaload, 1) := by decide +kernel
theorem dX4_shortenTerms_18 : decode cX4_shortenTerms 18 = .ok (.astore_n 3, 1) := by decide +kernel
theorem dX4_shortenTerms_19 : decode cX4_shortenTerms 19 = .ok (.aload_n 3, 1) := by decide +kernel
theorem dX4_shortenTerms_20 : decode cX4_shortenTerms 20 = .ok (.invokevirtual 76, 3) := by decide +kernel
theorem dX4_shortenTerms_23 : decode cX4_shortenTerms 23 = .ok (.ifCond .eq 30, 3) := by decide +kernel
theorem dX4_shortenTerms_26 : decode cX4_shortenTerms 26 = .ok (.aload_n 3, 1) := by decide +kernel
theorem dX4_shortenTerms_27 : decode cX4_shortenTerms 27 = .ok (.dup, 1) := by decide +kernel
theorem dX4_shortenTerms_28 : decode cX4_shortenTerms 28 = .ok (.getfield 140, 3) := by decide +kernel
theorem dX4_shortenTerms_31 : decode cX4_shortenTerms 31 = .ok (.iconst 1, 1) := by decide +kernel
theorem dX4_shortenTerms_32 : decode cX4_shortenTerms 32 = .ok (.isub, 1) := by decide +kernel
theorem dX4_shortenTerms_33 : decode cX4_shortenTerms 33 = .ok (.putfield 140, 3) := by decide +kernel
theorem dX4_shortenTerms_36 : decode cX4_shortenTerms 36 = .ok (.iload_n 1, 1) := by decide +kernel
theorem dX4_shortenTerms_37 : decode cX4_shortenTerms 37 = .ok (.ifCond .ne 10, 3) := by decide +kernel
theorem dX4_shortenTerms_40 : decode cX4_shortenTerms 40 = .ok (.aload_n 3, 1) := by decide +kernel
theorem dX4_shortenTerms_41 : decode cX4_shortenTerms 41 = .ok (.getfield 140, 3) := by decide +kernel
theorem dX4_shortenTerms_44 : decode cX4_shortenTerms 44 = .ok (.ifCond .ne 7, 3) := by decide +kernel
theorem dX4_shortenTerms_47 : decode cX4_shortenTerms 47 = .ok (.iconst 1, 1) := by decide +kernel
theorem dX4_shortenTerms_48 : decode cX4_shortenTerms 48 = .ok (.goto 4, 3) := by decide +kernel
theorem dX4_shortenTerms_51 : decode cX4_shortenTerms 51 = .ok (.iconst 0, 1) := by decide +kernel
theorem dX4_shortenTerms_52 : decode cX4_shortenTerms 52 = .ok (.istore_n 1, 1) := by decide +kernel
theorem dX4_shortenTerms_53 : decode cX4_shortenTerms 53 = .ok (.iinc 2 1, 3) := by decide +kernel
theorem dX4_shortenTerms_56 : decode cX4_shortenTerms 56 = .ok (.goto (-52), 3) := by decide +kernel
theorem dX4_shortenTerms_59 : decode cX4_shortenTerms 59 = .ok (.iload_n 1, 1) := by decide +kernel
theorem dX4_shortenTerms_60 : decode cX4_shortenTerms 60 = .ok (.ireturn, 1) := by decide +kernel
theorem dX4_hasConflict_0 : decode cX4_hasConflict 0 = .ok (.iconst 0, 1) := by decide +kernel
theorem dX4_hasConflict_1 : decode cX4_hasConflict 1 = .ok (.istore_n 2, 1) := by decide +kernel
theorem dX4_hasConflict_2 : decode cX4_hasConflict 2 = .ok (.iload_n 2, 1) := by decide +kernel
theorem dX4_hasConflict_3 : decode cX4_hasConflict 3 = .ok (.bipush 12, 2) := by decide +kernel
theorem dX4_hasConflict_5 : decode cX4_hasConflict 5 = .ok (.if_icmp .ge 37, 3) := by decide +kernel
theorem dX4_hasConflict_8 : decode cX4_hasConflict 8 = .ok (.aload_n 1, 1) := by decide +kernel
theorem dX4_hasConflict_9 : decode cX4_hasConflict 9 = .ok (.iload_n 2, 1) := by decide +kernel
theorem dX4_hasConflict_10 : decode cX4_hasConflict 10 = .ok (.invokevirtual 86, 3) := by decide +kernel
theorem dX4_hasConflict_13 : decode cX4_hasConflict 13 = .ok (.ifCond .eq 23, 3) := by decide +kernel
theorem dX4_hasConflict_16 : decode cX4_hasConflict 16 = .ok (.aload_n 0, 1) := by decide +kernel
theorem dX4_hasConflict_17 : decode cX4_hasConflict 17 = .ok (.getfield 11, 3) := by decide +kernel
theorem dX4_hasConflict_20 : decode cX4_hasConflict 20 = .ok (.iload_n 2, 1) := by decide +kernel
theorem dX4_hasConflict_21 : decode cX4_hasConflict 21 = .ok (.aaload, 1) := by decide +kernel
theorem dX4_hasConflict_22 : decode cX4_hasConflict 22 = .ok (.getfield 143, 3) := by decide +kernel
theorem dX4_hasConflict_25 : decode cX4_hasConflict 25 = .ok (.iconst 0, 1) := by decide +kernel
theorem dX4_hasConflict_26 : decode cX4_hasConflict 26 = .ok (.iaload, 1) := by decide +kernel
theorem dX4_hasConflict_27 : decode cX4_hasConflict 27 = .ok (.aload_n 1, 1) := by decide +kernel
theorem dX4_hasConflict_28 : decode cX4_hasConflict 28 = .ok (.getfield 90, 3) := by decide +kernel
theorem dX4_hasConflict_31 : decode cX4_hasConflict 31 = .ok (.if_icmp .le 5, 3) := by decide +kernel
theorem dX4_hasConflict_34 : decode cX4_hasConflict 34 = .ok (.iconst 1, 1) := by decide +kernel
theorem dX4_hasConflict_35 : decode cX4_hasConflict 35 = .ok (.ireturn, 1) := by decide +kernel
theorem dX4_hasConflict_36 : decode cX4_hasConflict 36 = .ok (.iinc 2 1, 3) := by decide +kernel
theorem dX4_hasConflict_39 : decode cX4_hasConflict 39 = .ok (.goto (-37), 3) := by decide +kernel
theorem dX4_hasConflict_42 : decode cX4_hasConflict 42 = .ok (.iconst 0, 1) := by decide +kernel
theorem dX4_hasConflict_43 : decode cX4_hasConflict 43 = .ok (.ireturn, 1) := by decide +kernel
theorem dX4_skewsOf_0 : decode cX4_skewsOf 0 = .ok (.iconst 0, 1) := by decide +kernel
theorem dX4_skewsOf_1 : decode cX4_skewsOf 1 = .ok (.istore_n 2, 1) := by decide +kernel
theorem dX4_skewsOf_2 : decode cX4_skewsOf 2 = .ok (.iconst 0, 1) := by decide +kernel
theorem dX4_skewsOf_3 : decode cX4_skewsOf 3 = .ok (.istore_n 3, 1) := by decide +kernel
theorem dX4_skewsOf_4 : decode cX4_skewsOf 4 = .ok (.iload_n 3, 1) := by decide +kernel
theorem dX4_skewsOf_5 : decode cX4_skewsOf 5 = .ok (.aload_n 0, 1) := by decide +kernel
theorem dX4_skewsOf_6 : decode cX4_skewsOf 6 = .ok (.getfield 50, 3) := by decide +kernel
theorem dX4_skewsOf_9 : decode cX4_skewsOf 9 = .ok (.if_icmp .ge 25, 3) := by decide +kernel
theorem dX4_skewsOf_12 : decode cX4_skewsOf 12 = .ok (.aload_n 0, 1) := by decide +kernel
theorem dX4_skewsOf_13 : decode cX4_skewsOf 13 = .ok (.getfield 25, 3) := by decide +kernel
theorem dX4_skewsOf_16 : decode cX4_skewsOf 16 = .ok (.iload_n 3, 1) := by decide +kernel
theorem dX4_skewsOf_17 : decode cX4_skewsOf 17 = .ok (.aaload, 1) := by decide +kernel
theorem dX4_skewsOf_18 : decode cX4_skewsOf 18 = .ok (.aload_n 1, 1) := by decide +kernel
theorem dX4_skewsOf_19 : decode cX4_skewsOf 19 = .ok (.invokevirtual 146, 3) := by decide +kernel
theorem dX4_skewsOf_22 : decode cX4_skewsOf 22 = .ok (.ifCond .eq 6, 3) := by decide +kernel
theorem dX4_skewsOf_25 : decode cX4_skewsOf 25 = .ok (.iinc 2 1, 3) := by decide +kernel
theorem dX4_skewsOf_28 : decode cX4_skewsOf 28 = .ok (.iinc 3 1, 3) := by decide +kernel
theorem dX4_skewsOf_31 : decode cX4_skewsOf 31 = .ok (.goto (-27), 3) := by decide +kernel
theorem dX4_skewsOf_34 : decode cX4_skewsOf 34 = .ok (.iload_n 2, 1) := by decide +kernel
theorem dX4_skewsOf_35 : decode cX4_skewsOf 35 = .ok (.ireturn, 1) := by decide +kernel
theorem dX4_pairsInSkew_0 : decode cX4_pairsInSkew 0 = .ok (.iconst 0, 1) := by decide +kernel
theorem dX4_pairsInSkew_1 : decode cX4_pairsInSkew 1 = .ok (.istore_n 1, 1) := by decide +kernel
theorem dX4_pairsInSkew_2 : decode cX4_pairsInSkew 2 = .ok (.iconst 0, 1) := by decide +kernel
theorem dX4_pairsInSkew_3 : decode cX4_pairsInSkew 3 = .ok (.istore_n 2, 1) := by decide +kernel
theorem dX4_pairsInSkew_4 : decode cX4_pairsInSkew 4 = .ok (.iload_n 2, 1) := by decide +kernel
theorem dX4_pairsInSkew_5 : decode cX4_pairsInSkew 5 = .ok (.aload_n 0, 1) := by decide +kernel
theorem dX4_pairsInSkew_6 : decode cX4_pairsInSkew 6 = .ok (.getfield 50, 3) := by decide +kernel
theorem dX4_pairsInSkew_9 : decode cX4_pairsInSkew 9 = .ok (.if_icmp .ge 21, 3) := by decide +kernel
theorem dX4_pairsInSkew_12 : decode cX4_pairsInSkew 12 = .ok (.iload_n 1, 1) := by decide +kernel
theorem dX4_pairsInSkew_13 : decode cX4_pairsInSkew 13 = .ok (.aload_n 0, 1) := by decide +kernel
theorem dX4_pairsInSkew_14 : decode cX4_pairsInSkew 14 = .ok (.getfield 25, 3) := by decide +kernel
theorem dX4_pairsInSkew_17 : decode cX4_pairsInSkew 17 = .ok (.iload_n 2, 1) := by decide +kernel
theorem dX4_pairsInSkew_18 : decode cX4_pairsInSkew 18 = .ok (.aaload, 1) := by decide +kernel
theorem dX4_pairsInSkew_19 : decode cX4_pairsInSkew 19 = .ok (.getfield 150, 3) := by decide +kernel
theorem dX4_pairsInSkew_22 : decode cX4_pairsInSkew 22 = .ok (.iadd, 1) := by decide +kernel
theorem dX4_pairsInSkew_23 : decode cX4_pairsInSkew 23 = .ok (.istore_n 1, 1) := by decide +kernel
theorem dX4_pairsInSkew_24 : decode cX4_pairsInSkew 24 = .ok (.iinc 2 1, 3) := by decide +kernel
theorem dX4_pairsInSkew_27 : decode cX4_pairsInSkew 27 = .ok (.goto (-23), 3) := by decide +kernel
theorem dX4_pairsInSkew_30 : decode cX4_pairsInSkew 30 = .ok (.iload_n 1, 1) := by decide +kernel
theorem dX4_pairsInSkew_31 : decode cX4_pairsInSkew 31 = .ok (.ireturn, 1) := by decide +kernel
theorem dX4_oldVersionsWithout_0 : decode cX4_oldVersionsWithout 0 = .ok (.iconst 0, 1) := by decide +kernel
theorem dX4_oldVersionsWithout_1 : decode cX4_oldVersionsWithout 1 = .ok (.istore_n 2, 1) := by decide +kernel
theorem dX4_oldVersionsWithout_2 : decode cX4_oldVersionsWithout 2 = .ok (.iconst 0, 1) := by decide +kernel
theorem dX4_oldVersionsWithout_3 : decode cX4_oldVersionsWithout 3 = .ok (.istore_n 3, 1) := by decide +kernel
theorem dX4_oldVersionsWithout_4 : decode cX4_oldVersionsWithout 4 = .ok (.iload_n 3, 1) := by decide +kernel
theorem dX4_oldVersionsWithout_5 : decode cX4_oldVersionsWithout 5 = .ok (.bipush 12, 2) := by decide +kernel
theorem dX4_oldVersionsWithout_7 : decode cX4_oldVersionsWithout 7 = .ok (.if_icmp .ge 55, 3) := by decide +kernel
theorem dX4_oldVersionsWithout_10 : decode cX4_oldVersionsWithout 10 = .ok (.aload_n 0, 1) := by decide +kernel
theorem dX4_oldVersionsWithout_11 : decode cX4_oldVersionsWithout 11 = .ok (.aload_n 0, 1) := by decide +kernel
theorem dX4_oldVersionsWithout_12 : decode cX4_oldVersionsWithout 12 = .ok (.getfield 11, 3) := by decide +kernel
theorem dX4_oldVersionsWithout_15 : decode cX4_oldVersionsWithout 15 = .ok (.iload_n 3, 1) := by decide +kernel
theorem dX4_oldVersionsWithout_16 : decode cX4_oldVersionsWithout 16 = .ok (.aaload, 1) := by decide +kernel
theorem dX4_oldVersionsWithout_17 : decode cX4_oldVersionsWithout 17 = .ok (.iload_n 1, 1) := by decide +kernel
theorem dX4_oldVersionsWithout_18 : decode cX4_oldVersionsWithout 18 = .ok (.invokevirtual 104, 3) := by decide +kernel
theorem dX4_oldVersionsWithout_21 : decode cX4_oldVersionsWithout 21 = .ok (.istore 4, 2) := by decide +kernel
theorem dX4_oldVersionsWithout_23 : decode cX4_oldVersionsWithout 23 = .ok (.aload_n 0, 1) := by decide +kernel
theorem dX4_oldVersionsWithout_24 : decode cX4_oldVersionsWithout 24 = .ok (.getfield 19, 3) := by decide +kernel
theorem dX4_oldVersionsWithout_27 : decode cX4_oldVersionsWithout 27 = .ok (.iload_n 1, 1) := by decide +kernel
theorem dX4_oldVersionsWithout_28 : decode cX4_oldVersionsWithout 28 = .ok (.aaload, 1) := by decide +kernel
theorem dX4_oldVersionsWithout_29 : decode cX4_oldVersionsWithout 29 = .ok (.iload_n 3, 1) := by decide +kernel
theorem dX4_oldVersionsWithout_30 : decode cX4_oldVersionsWithout 30 = .ok (.invokevirtual 86, 3) := by decide +kernel
theorem dX4_oldVersionsWithout_33 : decode cX4_oldVersionsWithout 33 = .ok (.istore 5, 2) := by decide +kernel
theorem dX4_oldVersionsWithout_35 : decode cX4_oldVersionsWithout 35 = .ok (.iload_n 2, 1) := by decide +kernel
theorem dX4_oldVersionsWithout_36 : decode cX4_oldVersionsWithout 36 = .ok (.iload 5, 2) := by decide +kernel
theorem dX4_oldVersionsWithout_38 : decode cX4_oldVersionsWithout 38 = .ok (.ifCond .eq 8, 3) := by decide +kernel
theorem dX4_oldVersionsWithout_41 : decode cX4_oldVersionsWithout 41 = .ok (.iload 4, 2) := by decide +kernel
theorem dX4_oldVersionsWithout_43 : decode cX4_oldVersionsWithout 43 = .ok (.goto 8, 3) := by decide +kernel
theorem dX4_oldVersionsWithout_46 : decode cX4_oldVersionsWithout 46 = .ok (.iload 4, 2) := by decide +kernel
theorem dX4_oldVersionsWithout_48 : decode cX4_oldVersionsWithout 48 = .ok (.bipush (-2), 2) := by decide +kernel
theorem dX4_oldVersionsWithout_50 : decode cX4_oldVersionsWithout 50 = .ok (.iand, 1) := by decide +kernel
theorem dX4_oldVersionsWithout_51 : decode cX4_oldVersionsWithout 51 = .ok (.invokestatic 153, 3) := by decide +kernel
theorem dX4_oldVersionsWithout_54 : decode cX4_oldVersionsWithout 54 = .ok (.iadd, 1) := by decide +kernel
theorem dX4_oldVersionsWithout_55 : decode cX4_oldVersionsWithout 55 = .ok (.istore_n 2, 1) := by decide +kernel
theorem dX4_oldVersionsWithout_56 : decode cX4_oldVersionsWithout 56 = .ok (.iinc 3 1, 3) := by decide +kernel
theorem dX4_oldVersionsWithout_59 : decode cX4_oldVersionsWithout 59 = .ok (.goto (-55), 3) := by decide +kernel
theorem dX4_oldVersionsWithout_62 : decode cX4_oldVersionsWithout 62 = .ok (.iload_n 2, 1) := by decide +kernel
theorem dX4_oldVersionsWithout_63 : decode cX4_oldVersionsWithout 63 = .ok (.ireturn, 1) := by decide +kernel
theorem dX4_land_0 : decode cX4_land 0 = .ok (.aload_n 0, 1) := by decide +kernel
theorem dX4_land_1 : decode cX4_land 1 = .ok (.getfield 19, 3) := by decide +kernel
theorem dX4_land_4 : decode cX4_land 4 = .ok (.iload_n 1, 1) := by decide +kernel
theorem dX4_land_5 : decode cX4_land 5 = .ok (.aaload, 1) := by decide +kernel
theorem dX4_land_6 : decode cX4_land 6 = .ok (.astore_n 2, 1) := by decide +kernel
theorem dX4_land_7 : decode cX4_land 7 = .ok (.aload_n 2, 1) := by decide +kernel
theorem dX4_land_8 : decode cX4_land 8 = .ok (.getfield 158, 3) := by decide +kernel
theorem dX4_land_11 : decode cX4_land 11 = .ok (.ifCond .eq 23, 3) := by decide +kernel
theorem dX4_land_14 : decode cX4_land 14 = .ok (.aload_n 0, 1) := by decide +kernel
theorem dX4_land_15 : decode cX4_land 15 = .ok (.iload_n 1, 1) := by decide +kernel
theorem dX4_land_16 : decode cX4_land 16 = .ok (.invokevirtual 161, 3) := by decide +kernel
theorem dX4_land_19 : decode cX4_land 19 = .ok (.aload_n 0, 1) := by decide +kernel
theorem dX4_land_20 : decode cX4_land 20 = .ok (.dup, 1) := by decide +kernel
theorem dX4_land_21 : decode cX4_land 21 = .ok (.getfield 56, 3) := by decide +kernel
theorem dX4_land_24 : decode cX4_land 24 = .ok (.iconst 1, 1) := by decide +kernel
theorem dX4_land_25 : decode cX4_land 25 = .ok (.iadd, 1) := by decide +kernel
theorem dX4_land_26 : decode cX4_land 26 = .ok (.putfield 56, 3) := by decide +kernel
theorem dX4_land_29 : decode cX4_land 29 = .ok (.aload_n 0, 1) := by decide +kernel
theorem dX4_land_30 : decode cX4_land 30 = .ok (.aload_n 2, 1) := by decide +kernel
theorem dX4_land_31 : decode cX4_land 31 = .ok (.invokevirtual 165, 3) := by decide +kernel
theorem dX4_land_34 : decode cX4_land 34 = .ok (.aload_n 2, 1) := by decide +kernel
theorem dX4_land_35 : decode cX4_land 35 = .ok (.iconst 1, 1) := by decide +kernel
theorem dX4_land_36 : decode cX4_land 36 = .ok (.putfield 73, 3) := by decide +kernel
theorem dX4_land_39 : decode cX4_land 39 = .ok (.aload_n 0, 1) := by decide +kernel
theorem dX4_land_40 : decode cX4_land 40 = .ok (.invokevirtual 130, 3) := by decide +kernel
theorem dX4_land_43 : decode cX4_land 43 = .ok (.pop, 1) := by decide +kernel
theorem dX4_land_44 : decode cX4_land 44 = .ok (.return_, 1) := by decide +kernel
theorem dX4_noteCommit_0 : decode cX4_noteCommit 0 = .ok (.aload_n 0, 1) := by decide +kernel
theorem dX4_noteCommit_1 : decode cX4_noteCommit 1 = .ok (.getfield 50, 3) := by decide +kernel
theorem dX4_noteCommit_4 : decode cX4_noteCommit 4 = .ok (.bipush 40, 2) := by decide +kernel
theorem dX4_noteCommit_6 : decode cX4_noteCommit 6 = .ok (.if_icmp .lt 4, 3) := by decide +kernel
theorem dX4_noteCommit_9 : decode cX4_noteCommit 9 = .ok (.return_, 1) := by decide +kernel
theorem dX4_noteCommit_10 : decode cX4_noteCommit 10 = .ok (.aload_n 0, 1) := by decide +kernel
theorem dX4_noteCommit_11 : decode cX4_noteCommit 11 = .ok (.getfield 19, 3) := by decide +kernel
theorem dX4_noteCommit_14 : decode cX4_noteCommit 14 = .ok (.iload_n 1, 1) := by decide +kernel
theorem dX4_noteCommit_15 : decode cX4_noteCommit 15 = .ok (.aaload, 1) := by decide +kernel
theorem dX4_noteCommit_16 : decode cX4_noteCommit 16 = .ok (.astore_n 2, 1) := by decide +kernel
theorem dX4_noteCommit_17 : decode cX4_noteCommit 17 = .ok (.aload_n 0, 1) := by decide +kernel
theorem dX4_noteCommit_18 : decode cX4_noteCommit 18 = .ok (.getfield 25, 3) := by decide +kernel
theorem dX4_noteCommit_21 : decode cX4_noteCommit 21 = .ok (.aload_n 0, 1) := by decide +kernel
theorem dX4_noteCommit_22 : decode cX4_noteCommit 22 = .ok (.getfield 50, 3) := by decide +kernel
theorem dX4_noteCommit_25 : decode cX4_noteCommit 25 = .ok (.aaload, 1) := by decide +kernel
theorem dX4_noteCommit_26 : decode cX4_noteCommit 26 = .ok (.astore_n 3, 1) := by decide +kernel
theorem dX4_noteCommit_27 : decode cX4_noteCommit 27 = .ok (.aload_n 3, 1) := by decide +kernel
theorem dX4_noteCommit_28 : decode cX4_noteCommit 28 = .ok (.iload_n 1, 1) := by decide +kernel
theorem dX4_noteCommit_29 : decode cX4_noteCommit 29 = .ok (.putfield 168, 3) := by decide +kernel
theorem dX4_noteCommit_32 : decode cX4_noteCommit 32 = .ok (.aload_n 3, 1) := by decide +kernel
theorem dX4_noteCommit_33 : decode cX4_noteCommit 33 = .ok (.aload_n 2, 1) := by decide +kernel
theorem dX4_noteCommit_34 : decode cX4_noteCommit 34 = .ok (.getfield 90, 3) := by decide +kernel
theorem dX4_noteCommit_37 : decode cX4_noteCommit 37 = .ok (.putfield 171, 3) := by decide +kernel
theorem dX4_noteCommit_40 : decode cX4_noteCommit 40 = .ok (.aload_n 3, 1) := by decide +kernel
theorem dX4_noteCommit_41 : decode cX4_noteCommit 41 = .ok (.aload_n 0, 1) := by decide +kernel
theorem dX4_noteCommit_42 : decode cX4_noteCommit 42 = .ok (.getfield 56, 3) := by decide +kernel
theorem dX4_noteCommit_45 : decode cX4_noteCommit 45 = .ok (.iconst 1, 1) := by decide +kernel
theorem dX4_noteCommit_46 : decode cX4_noteCommit 46 = .ok (.iadd, 1) := by decide +kernel
theorem dX4_noteCommit_47 : decode cX4_noteCommit 47 = .ok (.putfield 174, 3) := by decide +kernel
theorem dX4_noteCommit_50 : decode cX4_noteCommit 50 = .ok (.aload_n 3, 1) := by decide +kernel
theorem dX4_noteCommit_51 : decode cX4_noteCommit 51 = .ok (.aload_n 2, 1) := by decide +kernel
theorem dX4_noteCommit_52 : decode cX4_noteCommit 52 = .ok (.getfield 158, 3) := by decide +kernel
theorem dX4_noteCommit_55 : decode cX4_noteCommit 55 = .ok (.putfield 177, 3) := by decide +kernel
theorem dX4_noteCommit_58 : decode cX4_noteCommit 58 = .ok (.aload_n 3, 1) := by decide +kernel
theorem dX4_noteCommit_59 : decode cX4_noteCommit 59 = .ok (.aload_n 2, 1) := by decide +kernel
theorem dX4_noteCommit_60 : decode cX4_noteCommit 60 = .ok (.getfield 178, 3) := by decide +kernel
theorem dX4_noteCommit_63 : decode cX4_noteCommit 63 = .ok (.putfield 181, 3) := by decide +kernel
theorem dX4_noteCommit_66 : decode cX4_noteCommit 66 = .ok (.aload_n 3, 1) := by decide +kernel
theorem dX4_noteCommit_67 : decode cX4_noteCommit 67 = .ok (.aload_n 0, 1) := by decide +kernel
theorem dX4_noteCommit_68 : decode cX4_noteCommit 68 = .ok (.aload_n 2, 1) := by decide +kernel
theorem dX4_noteCommit_69 : decode cX4_noteCommit 69 = .ok (.invokevirtual 182, 3) := by decide +kernel
theorem dX4_noteCommit_72 : decode cX4_noteCommit 72 = .ok (.putfield 150, 3) := by decide +kernel
theorem dX4_noteCommit_75 : decode cX4_noteCommit 75 = .ok (.aload_n 0, 1) := by decide +kernel
theorem dX4_noteCommit_76 : decode cX4_noteCommit 76 = .ok (.dup, 1) := by decide +kernel
theorem dX4_noteCommit_77 : decode cX4_noteCommit 77 = .ok (.getfield 50, 3) := by decide +kernel
theorem dX4_noteCommit_80 : decode cX4_noteCommit 80 = .ok (.iconst 1, 1) := by decide +kernel
theorem dX4_noteCommit_81 : decode cX4_noteCommit 81 = .ok (.iadd, 1) := by decide +kernel
theorem dX4_noteCommit_82 : decode cX4_noteCommit 82 = .ok (.putfield 50, 3) := by decide +kernel
theorem dX4_noteCommit_85 : decode cX4_noteCommit 85 = .ok (.return_, 1) := by decide +kernel
theorem dX4_pushWrites_0 : decode cX4_pushWrites 0 = .ok (.iconst 0, 1) := by decide +kernel
theorem dX4_pushWrites_1 : decode cX4_pushWrites 1 = .ok (.istore_n 2, 1) := by decide +kernel
theorem dX4_pushWrites_2 : decode cX4_pushWrites 2 = .ok (.iload_n 2, 1) := by decide +kernel
theorem dX4_pushWrites_3 : decode cX4_pushWrites 3 = .ok (.bipush 12, 2) := by decide +kernel
theorem dX4_pushWrites_5 : decode cX4_pushWrites 5 = .ok (.if_icmp .ge 36, 3) := by decide +kernel
theorem dX4_pushWrites_8 : decode cX4_pushWrites 8 = .ok (.aload_n 1, 1) := by decide +kernel
theorem dX4_pushWrites_9 : decode cX4_pushWrites 9 = .ok (.iload_n 2, 1) := by decide +kernel
theorem dX4_pushWrites_10 : decode cX4_pushWrites 10 = .ok (.invokevirtual 86, 3) := by decide +kernel
theorem dX4_pushWrites_13 : decode cX4_pushWrites 13 = .ok (.ifCond .eq 22, 3) := by decide +kernel
theorem dX4_pushWrites_16 : decode cX4_pushWrites 16 = .ok (.aload_n 0, 1) := by decide +kernel
theorem dX4_pushWrites_17 : decode cX4_pushWrites 17 = .ok (.getfield 11, 3) := by decide +kernel
theorem dX4_pushWrites_20 : decode cX4_pushWrites 20 = .ok (.iload_n 2, 1) := by decide +kernel
theorem dX4_pushWrites_21 : decode cX4_pushWrites 21 = .ok (.aaload, 1) := by decide +kernel
theorem dX4_pushWrites_22 : decode cX4_pushWrites 22 = .ok (.aload_n 1, 1) := by decide +kernel
theorem dX4_pushWrites_23 : decode cX4_pushWrites 23 = .ok (.getfield 185, 3) := by decide +kernel
theorem dX4_pushWrites_26 : decode cX4_pushWrites 26 = .ok (.iload_n 2, 1) := by decide +kernel
theorem dX4_pushWrites_27 : decode cX4_pushWrites 27 = .ok (.iaload, 1) := by decide +kernel
theorem dX4_pushWrites_28 : decode cX4_pushWrites 28 = .ok (.aload_n 0, 1) := by decide +kernel
theorem dX4_pushWrites_29 : decode cX4_pushWrites 29 = .ok (.getfield 56, 3) := by decide +kernel
theorem dX4_pushWrites_32 : decode cX4_pushWrites 32 = .ok (.invokevirtual 188, 3) := by decide +kernel
theorem dX4_pushWrites_35 : decode cX4_pushWrites 35 = .ok (.iinc 2 1, 3) := by decide +kernel
theorem dX4_pushWrites_38 : decode cX4_pushWrites 38 = .ok (.goto (-36), 3) := by decide +kernel
theorem dX4_pushWrites_41 : decode cX4_pushWrites 41 = .ok (.return_, 1) := by decide +kernel
theorem dX5_init_0 : decode cX5_init 0 = .ok (.aload_n 0, 1) := by decide +kernel
theorem dX5_init_1 : decode cX5_init 1 = .ok (.invokespecial 3, 3) := by decide +kernel
theorem dX5_init_4 : decode cX5_init 4 = .ok (.aload_n 0, 1) := by decide +kernel
theorem dX5_init_5 : decode cX5_init 5 = .ok (.bipush 60, 2) := by decide +kernel
theorem dX5_init_7 : decode cX5_init 7 = .ok (.newarray .char, 2) := by decide +kernel
theorem dX5_init_9 : decode cX5_init 9 = .ok (.putfield 9, 3) := by decide +kernel
theorem dX5_init_12 : decode cX5_init 12 = .ok (.aload_n 0, 1) := by decide +kernel
theorem dX5_init_13 : decode cX5_init 13 = .ok (.bipush 16, 2) := by decide +kernel
theorem dX5_init_15 : decode cX5_init 15 = .ok (.newarray .int, 2) := by decide +kernel
theorem dX5_init_17 : decode cX5_init 17 = .ok (.putfield 15, 3) := by decide +kernel
theorem dX5_init_20 : decode cX5_init 20 = .ok (.aload_n 0, 1) := by decide +kernel
theorem dX5_init_21 : decode cX5_init 21 = .ok (.bipush 16, 2) := by decide +kernel
theorem dX5_init_23 : decode cX5_init 23 = .ok (.newarray .int, 2) := by decide +kernel
theorem dX5_init_25 : decode cX5_init 25 = .ok (.putfield 19, 3) := by decide +kernel
theorem dX5_init_28 : decode cX5_init 28 = .ok (.return_, 1) := by decide +kernel
theorem dX6_init_0 : decode cX6_init 0 = .ok (.aload_n 0, 1) := by decide +kernel
theorem dX6_init_1 : decode cX6_init 1 = .ok (.invokespecial 3, 3) := by decide +kernel
theorem dX6_init_4 : decode cX6_init 4 = .ok (.aload_n 0, 1) := by decide +kernel
theorem dX6_init_5 : decode cX6_init 5 = .ok (.new 9, 3) := by decide +kernel
theorem dX6_init_8 : decode cX6_init 8 = .ok (.dup, 1) := by decide +kernel
theorem dX6_init_9 : decode cX6_init 9 = .ok (.invokespecial 11, 3) := by decide +kernel
theorem dX6_init_12 : decode cX6_init 12 = .ok (.putfield 12, 3) := by decide +kernel
theorem dX6_init_15 : decode cX6_init 15 = .ok (.aload_n 0, 1) := by decide +kernel
theorem dX6_init_16 : decode cX6_init 16 = .ok (.new 9, 3) := by decide +kernel
theorem dX6_init_19 : decode cX6_init 19 = .ok (.dup, 1) := by decide +kernel
theorem dX6_init_20 : decode cX6_init 20 = .ok (.invokespecial 11, 3) := by decide +kernel
theorem dX6_init_23 : decode cX6_init 23 = .ok (.putfield 16, 3) := by decide +kernel
theorem dX6_init_26 : decode cX6_init 26 = .ok (.aload_n 0, 1) := by decide +kernel
end
section
theorem dX6_init_27 : decode cX6_init 27 = .ok (.new 9, 3) := by decide +kernel
theorem dX6_init_30 : decode cX6_init 30 = .ok (.dup, 1) := by decide +kernel
theorem dX6_init_31 : decode cX6_init 31 = .ok (.invokespecial 11, 3) := by decide +kernel
theorem dX6_init_34 : decode cX6_init 34 = .ok (.putfield 19, 3) := by decide +kernel
theorem dX6_init_37 : decode cX6_init 37 = .ok (.aload_n 0, 1) := by decide +kernel
theorem dX6_init_38 : decode cX6_init 38 = .ok (.new 22, 3) := by decide +kernel
theorem dX6_init_41 : decode cX6_init 41 = .ok (.dup, 1) := by decide +kernel
theorem dX6_init_42 : decode cX6_init 42 = .ok (.invokespecial 24, 3) := by decide +kernel
theorem dX6_init_45 : decode cX6_init 45 = .ok (.putfield 25, 3) := by decide +kernel
theorem dX6_init_48 : decode cX6_init 48 = .ok (.aload_n 0, 1) := by decide +kernel
theorem dX6_init_49 : decode cX6_init 49 = .ok (.new 29, 3) := by decide +kernel
theorem dX6_init_52 : decode cX6_init 52 = .ok (.dup, 1) := by decide +kernel
theorem dX6_init_53 : decode cX6_init 53 = .ok (.invokespecial 31, 3) := by decide +kernel
theorem dX6_init_56 : decode cX6_init 56 = .ok (.putfield 32, 3) := by decide +kernel
theorem dX6_init_59 : decode cX6_init 59 = .ok (.return_, 1) := by decide +kernel
theorem dX6_open_0 : decode cX6_open 0 = .ok (.iload_n 1, 1) := by decide +kernel
theorem dX6_open_1 : decode cX6_open 1 = .ok (.ifCond .lt 10, 3) := by decide +kernel
theorem dX6_open_4 : decode cX6_open 4 = .ok (.iload_n 1, 1) := by decide +kernel
theorem dX6_open_5 : decode cX6_open 5 = .ok (.sipush 9999, 3) := by decide +kernel
theorem dX6_open_8 : decode cX6_open 8 = .ok (.if_icmp .le 6, 3) := by decide +kernel
theorem dX6_open_11 : decode cX6_open 11 = .ok (.bipush (-2), 2) := by decide +kernel
theorem dX6_open_13 : decode cX6_open 13 = .ok (.ireturn, 1) := by decide +kernel
theorem dX6_open_14 : decode cX6_open 14 = .ok (.aload_n 0, 1) := by decide +kernel
theorem dX6_open_15 : decode cX6_open 15 = .ok (.getfield 12, 3) := by decide +kernel
theorem dX6_open_18 : decode cX6_open 18 = .ok (.getfield 36, 3) := by decide +kernel
theorem dX6_open_21 : decode cX6_open 21 = .ok (.bipush 40, 2) := by decide +kernel
theorem dX6_open_23 : decode cX6_open 23 = .ok (.if_icmp .ge 16, 3) := by decide +kernel
theorem dX6_open_26 : decode cX6_open 26 = .ok (.aload_n 0, 1) := by decide +kernel
theorem dX6_open_27 : decode cX6_open 27 = .ok (.getfield 12, 3) := by decide +kernel
theorem dX6_open_30 : decode cX6_open 30 = .ok (.iconst 0, 1) := by decide +kernel
theorem dX6_open_31 : decode cX6_open 31 = .ok (.invokevirtual 40, 3) := by decide +kernel
theorem dX6_open_34 : decode cX6_open 34 = .ok (.bipush 8, 2) := by decide +kernel
theorem dX6_open_36 : decode cX6_open 36 = .ok (.if_icmp .lt 6, 3) := by decide +kernel
theorem dX6_open_39 : decode cX6_open 39 = .ok (.bipush (-3), 2) := by decide +kernel
theorem dX6_open_41 : decode cX6_open 41 = .ok (.ireturn, 1) := by decide +kernel
theorem dX6_open_42 : decode cX6_open 42 = .ok (.aload_n 0, 1) := by decide +kernel
theorem dX6_open_43 : decode cX6_open 43 = .ok (.getfield 25, 3) := by decide +kernel
theorem dX6_open_46 : decode cX6_open 46 = .ok (.aload_n 0, 1) := by decide +kernel
theorem dX6_open_47 : decode cX6_open 47 = .ok (.getfield 12, 3) := by decide +kernel
theorem dX6_open_50 : decode cX6_open 50 = .ok (.invokevirtual 44, 3) := by decide +kernel
theorem dX6_open_53 : decode cX6_open 53 = .ok (.aload_n 0, 1) := by decide +kernel
theorem dX6_open_54 : decode cX6_open 54 = .ok (.getfield 12, 3) := by decide +kernel
theorem dX6_open_57 : decode cX6_open 57 = .ok (.iload_n 1, 1) := by decide +kernel
theorem dX6_open_58 : decode cX6_open 58 = .ok (.invokevirtual 48, 3) := by decide +kernel
theorem dX6_open_61 : decode cX6_open 61 = .ok (.ireturn, 1) := by decide +kernel
theorem dX6_pay_0 : decode cX6_pay 0 = .ok (.aload_n 0, 1) := by decide +kernel
theorem dX6_pay_1 : decode cX6_pay 1 = .ok (.getfield 12, 3) := by decide +kernel
theorem dX6_pay_4 : decode cX6_pay 4 = .ok (.iload_n 1, 1) := by decide +kernel
theorem dX6_pay_5 : decode cX6_pay 5 = .ok (.invokevirtual 51, 3) := by decide +kernel
theorem dX6_pay_8 : decode cX6_pay 8 = .ok (.ifCond .ne 5, 3) := by decide +kernel
theorem dX6_pay_11 : decode cX6_pay 11 = .ok (.iconst (-1), 1) := by decide +kernel
theorem dX6_pay_12 : decode cX6_pay 12 = .ok (.ireturn, 1) := by decide +kernel
theorem dX6_pay_13 : decode cX6_pay 13 = .ok (.iload_n 2, 1) := by decide +kernel
theorem dX6_pay_14 : decode cX6_pay 14 = .ok (.iconst 1, 1) := by decide +kernel
theorem dX6_pay_15 : decode cX6_pay 15 = .ok (.if_icmp .lt 10, 3) := by decide +kernel
theorem dX6_pay_18 : decode cX6_pay 18 = .ok (.iload_n 2, 1) := by decide +kernel
theorem dX6_pay_19 : decode cX6_pay 19 = .ok (.sipush 9999, 3) := by decide +kernel
theorem dX6_pay_22 : decode cX6_pay 22 = .ok (.if_icmp .le 6, 3) := by decide +kernel
theorem dX6_pay_25 : decode cX6_pay 25 = .ok (.bipush (-2), 2) := by decide +kernel
theorem dX6_pay_27 : decode cX6_pay 27 = .ok (.ireturn, 1) := by decide +kernel
theorem dX6_pay_28 : decode cX6_pay 28 = .ok (.aload_n 0, 1) := by decide +kernel
theorem dX6_pay_29 : decode cX6_pay 29 = .ok (.getfield 12, 3) := by decide +kernel
theorem dX6_pay_32 : decode cX6_pay 32 = .ok (.getfield 55, 3) := by decide +kernel
theorem dX6_pay_35 : decode cX6_pay 35 = .ok (.iload_n 1, 1) := by decide +kernel
theorem dX6_pay_36 : decode cX6_pay 36 = .ok (.aaload, 1) := by decide +kernel
theorem dX6_pay_37 : decode cX6_pay 37 = .ok (.astore_n 3, 1) := by decide +kernel
theorem dX6_pay_38 : decode cX6_pay 38 = .ok (.aload_n 3, 1) := by decide +kernel
theorem dX6_pay_39 : decode cX6_pay 39 = .ok (.invokevirtual 59, 3) := by decide +kernel
theorem dX6_pay_42 : decode cX6_pay 42 = .ok (.ifCond .ne 6, 3) := by decide +kernel
theorem dX6_pay_45 : decode cX6_pay 45 = .ok (.bipush (-4), 2) := by decide +kernel
theorem dX6_pay_47 : decode cX6_pay 47 = .ok (.ireturn, 1) := by decide +kernel
theorem dX6_pay_48 : decode cX6_pay 48 = .ok (.aload_n 3, 1) := by decide +kernel
theorem dX6_pay_49 : decode cX6_pay 49 = .ok (.getfield 65, 3) := by decide +kernel
theorem dX6_pay_52 : decode cX6_pay 52 = .ok (.iload_n 2, 1) := by decide +kernel
theorem dX6_pay_53 : decode cX6_pay 53 = .ok (.iadd, 1) := by decide +kernel
theorem dX6_pay_54 : decode cX6_pay 54 = .ok (.sipush 9999, 3) := by decide +kernel
theorem dX6_pay_57 : decode cX6_pay 57 = .ok (.if_icmp .le 6, 3) := by decide +kernel
theorem dX6_pay_60 : decode cX6_pay 60 = .ok (.bipush (-3), 2) := by decide +kernel
theorem dX6_pay_62 : decode cX6_pay 62 = .ok (.ireturn, 1) := by decide +kernel
theorem dX6_pay_63 : decode cX6_pay 63 = .ok (.aload_n 0, 1) := by decide +kernel
theorem dX6_pay_64 : decode cX6_pay 64 = .ok (.getfield 25, 3) := by decide +kernel
theorem dX6_pay_67 : decode cX6_pay 67 = .ok (.aload_n 0, 1) := by decide +kernel
theorem dX6_pay_68 : decode cX6_pay 68 = .ok (.getfield 12, 3) := by decide +kernel
theorem dX6_pay_71 : decode cX6_pay 71 = .ok (.invokevirtual 44, 3) := by decide +kernel
theorem dX6_pay_74 : decode cX6_pay 74 = .ok (.aload_n 3, 1) := by decide +kernel
theorem dX6_pay_75 : decode cX6_pay 75 = .ok (.dup, 1) := by decide +kernel
theorem dX6_pay_76 : decode cX6_pay 76 = .ok (.getfield 65, 3) := by decide +kernel
theorem dX6_pay_79 : decode cX6_pay 79 = .ok (.iload_n 2, 1) := by decide +kernel
theorem dX6_pay_80 : decode cX6_pay 80 = .ok (.iadd, 1) := by decide +kernel
theorem dX6_pay_81 : decode cX6_pay 81 = .ok (.putfield 65, 3) := by decide +kernel
theorem dX6_pay_84 : decode cX6_pay 84 = .ok (.aload_n 3, 1) := by decide +kernel
theorem dX6_pay_85 : decode cX6_pay 85 = .ok (.getfield 65, 3) := by decide +kernel
theorem dX6_pay_88 : decode cX6_pay 88 = .ok (.ireturn, 1) := by decide +kernel
theorem dX6_widow_0 : decode cX6_widow 0 = .ok (.aload_n 0, 1) := by decide +kernel
theorem dX6_widow_1 : decode cX6_widow 1 = .ok (.getfield 12, 3) := by decide +kernel
theorem dX6_widow_4 : decode cX6_widow 4 = .ok (.iload_n 1, 1) := by decide +kernel
theorem dX6_widow_5 : decode cX6_widow 5 = .ok (.invokevirtual 51, 3) := by decide +kernel
theorem dX6_widow_8 : decode cX6_widow 8 = .ok (.ifCond .ne 5, 3) := by decide +kernel
theorem dX6_widow_11 : decode cX6_widow 11 = .ok (.iconst (-1), 1) := by decide +kernel
theorem dX6_widow_12 : decode cX6_widow 12 = .ok (.ireturn, 1) := by decide +kernel
theorem dX6_widow_13 : decode cX6_widow 13 = .ok (.iload_n 2, 1) := by decide +kernel
theorem dX6_widow_14 : decode cX6_widow 14 = .ok (.iconst 1, 1) := by decide +kernel
theorem dX6_widow_15 : decode cX6_widow 15 = .ok (.if_icmp .lt 9, 3) := by decide +kernel
theorem dX6_widow_18 : decode cX6_widow 18 = .ok (.iload_n 2, 1) := by decide +kernel
theorem dX6_widow_19 : decode cX6_widow 19 = .ok (.bipush 20, 2) := by decide +kernel
theorem dX6_widow_21 : decode cX6_widow 21 = .ok (.if_icmp .le 6, 3) := by decide +kernel
theorem dX6_widow_24 : decode cX6_widow 24 = .ok (.bipush (-2), 2) := by decide +kernel
theorem dX6_widow_26 : decode cX6_widow 26 = .ok (.ireturn, 1) := by decide +kernel
theorem dX6_widow_27 : decode cX6_widow 27 = .ok (.aload_n 0, 1) := by decide +kernel
theorem dX6_widow_28 : decode cX6_widow 28 = .ok (.getfield 12, 3) := by decide +kernel
theorem dX6_widow_31 : decode cX6_widow 31 = .ok (.getfield 55, 3) := by decide +kernel
theorem dX6_widow_34 : decode cX6_widow 34 = .ok (.iload_n 1, 1) := by decide +kernel
theorem dX6_widow_35 : decode cX6_widow 35 = .ok (.aaload, 1) := by decide +kernel
theorem dX6_widow_36 : decode cX6_widow 36 = .ok (.astore_n 3, 1) := by decide +kernel
theorem dX6_widow_37 : decode cX6_widow 37 = .ok (.aload_n 3, 1) := by decide +kernel
theorem dX6_widow_38 : decode cX6_widow 38 = .ok (.invokevirtual 59, 3) := by decide +kernel
theorem dX6_widow_41 : decode cX6_widow 41 = .ok (.ifCond .eq 10, 3) := by decide +kernel
theorem dX6_widow_44 : decode cX6_widow 44 = .ok (.aload_n 3, 1) := by decide +kernel
theorem dX6_widow_45 : decode cX6_widow 45 = .ok (.getfield 68, 3) := by decide +kernel
theorem dX6_widow_48 : decode cX6_widow 48 = .ok (.ifCond .eq 6, 3) := by decide +kernel
theorem dX6_widow_51 : decode cX6_widow 51 = .ok (.bipush (-4), 2) := by decide +kernel
theorem dX6_widow_53 : decode cX6_widow 53 = .ok (.ireturn, 1) := by decide +kernel
theorem dX6_widow_54 : decode cX6_widow 54 = .ok (.aload_n 0, 1) := by decide +kernel
theorem dX6_widow_55 : decode cX6_widow 55 = .ok (.getfield 25, 3) := by decide +kernel
theorem dX6_widow_58 : decode cX6_widow 58 = .ok (.aload_n 0, 1) := by decide +kernel
theorem dX6_widow_59 : decode cX6_widow 59 = .ok (.getfield 12, 3) := by decide +kernel
theorem dX6_widow_62 : decode cX6_widow 62 = .ok (.invokevirtual 44, 3) := by decide +kernel
theorem dX6_widow_65 : decode cX6_widow 65 = .ok (.aload_n 0, 1) := by decide +kernel
theorem dX6_widow_66 : decode cX6_widow 66 = .ok (.getfield 12, 3) := by decide +kernel
theorem dX6_widow_69 : decode cX6_widow 69 = .ok (.aload_n 3, 1) := by decide +kernel
theorem dX6_widow_70 : decode cX6_widow 70 = .ok (.invokevirtual 72, 3) := by decide +kernel
theorem dX6_widow_73 : decode cX6_widow 73 = .ok (.istore 4, 2) := by decide +kernel
theorem dX6_widow_75 : decode cX6_widow 75 = .ok (.aload_n 3, 1) := by decide +kernel
theorem dX6_widow_76 : decode cX6_widow 76 = .ok (.iconst 1, 1) := by decide +kernel
theorem dX6_widow_77 : decode cX6_widow 77 = .ok (.putfield 68, 3) := by decide +kernel
theorem dX6_widow_80 : decode cX6_widow 80 = .ok (.aload_n 3, 1) := by decide +kernel
theorem dX6_widow_81 : decode cX6_widow 81 = .ok (.iload_n 2, 1) := by decide +kernel
theorem dX6_widow_82 : decode cX6_widow 82 = .ok (.putfield 76, 3) := by decide +kernel
theorem dX6_widow_85 : decode cX6_widow 85 = .ok (.iload 4, 2) := by decide +kernel
theorem dX6_widow_87 : decode cX6_widow 87 = .ok (.ireturn, 1) := by decide +kernel
theorem dX6_close_0 : decode cX6_close 0 = .ok (.aload_n 0, 1) := by decide +kernel
theorem dX6_close_1 : decode cX6_close 1 = .ok (.getfield 12, 3) := by decide +kernel
theorem dX6_close_4 : decode cX6_close 4 = .ok (.iload_n 1, 1) := by decide +kernel
theorem dX6_close_5 : decode cX6_close 5 = .ok (.invokevirtual 51, 3) := by decide +kernel
theorem dX6_close_8 : decode cX6_close 8 = .ok (.ifCond .ne 5, 3) := by decide +kernel
theorem dX6_close_11 : decode cX6_close 11 = .ok (.iconst (-1), 1) := by decide +kernel
theorem dX6_close_12 : decode cX6_close 12 = .ok (.ireturn, 1) := by decide +kernel
theorem dX6_close_13 : decode cX6_close 13 = .ok (.aload_n 0, 1) := by decide +kernel
theorem dX6_close_14 : decode cX6_close 14 = .ok (.getfield 12, 3) := by decide +kernel
theorem dX6_close_17 : decode cX6_close 17 = .ok (.getfield 55, 3) := by decide +kernel
theorem dX6_close_20 : decode cX6_close 20 = .ok (.iload_n 1, 1) := by decide +kernel
theorem dX6_close_21 : decode cX6_close 21 = .ok (.aaload, 1) := by decide +kernel
theorem dX6_close_22 : decode cX6_close 22 = .ok (.astore_n 2, 1) := by decide +kernel
theorem dX6_close_23 : decode cX6_close 23 = .ok (.aload_n 2, 1) := by decide +kernel
theorem dX6_close_24 : decode cX6_close 24 = .ok (.invokevirtual 59, 3) := by decide +kernel
theorem dX6_close_27 : decode cX6_close 27 = .ok (.ifCond .ne 6, 3) := by decide +kernel
theorem dX6_close_30 : decode cX6_close 30 = .ok (.bipush (-4), 2) := by decide +kernel
theorem dX6_close_32 : decode cX6_close 32 = .ok (.ireturn, 1) := by decide +kernel
theorem dX6_close_33 : decode cX6_close 33 = .ok (.aload_n 0, 1) := by decide +kernel
theorem dX6_close_34 : decode cX6_close 34 = .ok (.getfield 25, 3) := by decide +kernel
theorem dX6_close_37 : decode cX6_close 37 = .ok (.aload_n 0, 1) := by decide +kernel
theorem dX6_close_38 : decode cX6_close 38 = .ok (.getfield 12, 3) := by decide +kernel
theorem dX6_close_41 : decode cX6_close 41 = .ok (.invokevirtual 44, 3) := by decide +kernel
theorem dX6_close_44 : decode cX6_close 44 = .ok (.aload_n 2, 1) := by decide +kernel
theorem dX6_close_45 : decode cX6_close 45 = .ok (.iconst 2, 1) := by decide +kernel
theorem dX6_close_46 : decode cX6_close 46 = .ok (.putfield 79, 3) := by decide +kernel
theorem dX6_close_49 : decode cX6_close 49 = .ok (.aload_n 0, 1) := by decide +kernel
theorem dX6_close_50 : decode cX6_close 50 = .ok (.getfield 12, 3) := by decide +kernel
theorem dX6_close_53 : decode cX6_close 53 = .ok (.invokevirtual 82, 3) := by decide +kernel
theorem dX6_close_56 : decode cX6_close 56 = .ok (.ireturn, 1) := by decide +kernel
theorem dX6_setRent_0 : decode cX6_setRent 0 = .ok (.iload_n 1, 1) := by decide +kernel
theorem dX6_setRent_1 : decode cX6_setRent 1 = .ok (.ifCond .lt 9, 3) := by decide +kernel
theorem dX6_setRent_4 : decode cX6_setRent 4 = .ok (.iload_n 1, 1) := by decide +kernel
theorem dX6_setRent_5 : decode cX6_setRent 5 = .ok (.bipush 99, 2) := by decide +kernel
theorem dX6_setRent_7 : decode cX6_setRent 7 = .ok (.if_icmp .le 6, 3) := by decide +kernel
theorem dX6_setRent_10 : decode cX6_setRent 10 = .ok (.bipush (-2), 2) := by decide +kernel
theorem dX6_setRent_12 : decode cX6_setRent 12 = .ok (.ireturn, 1) := by decide +kernel
theorem dX6_setRent_13 : decode cX6_setRent 13 = .ok (.aload_n 0, 1) := by decide +kernel
theorem dX6_setRent_14 : decode cX6_setRent 14 = .ok (.getfield 12, 3) := by decide +kernel
theorem dX6_setRent_17 : decode cX6_setRent 17 = .ok (.getfield 86, 3) := by decide +kernel
theorem dX6_setRent_20 : decode cX6_setRent 20 = .ok (.istore_n 2, 1) := by decide +kernel
theorem dX6_setRent_21 : decode cX6_setRent 21 = .ok (.iload_n 1, 1) := by decide +kernel
theorem dX6_setRent_22 : decode cX6_setRent 22 = .ok (.iload_n 2, 1) := by decide +kernel
theorem dX6_setRent_23 : decode cX6_setRent 23 = .ok (.if_icmp .ne 6, 3) := by decide +kernel
theorem dX6_setRent_26 : decode cX6_setRent 26 = .ok (.bipush (-5), 2) := by decide +kernel
theorem dX6_setRent_28 : decode cX6_setRent 28 = .ok (.ireturn, 1) := by decide +kernel
theorem dX6_setRent_29 : decode cX6_setRent 29 = .ok (.aload_n 0, 1) := by decide +kernel
theorem dX6_setRent_30 : decode cX6_setRent 30 = .ok (.getfield 25, 3) := by decide +kernel
theorem dX6_setRent_33 : decode cX6_setRent 33 = .ok (.aload_n 0, 1) := by decide +kernel
theorem dX6_setRent_34 : decode cX6_setRent 34 = .ok (.getfield 12, 3) := by decide +kernel
theorem dX6_setRent_37 : decode cX6_setRent 37 = .ok (.invokevirtual 44, 3) := by decide +kernel
theorem dX6_setRent_40 : decode cX6_setRent 40 = .ok (.aload_n 0, 1) := by decide +kernel
theorem dX6_setRent_41 : decode cX6_setRent 41 = .ok (.getfield 12, 3) := by decide +kernel
theorem dX6_setRent_44 : decode cX6_setRent 44 = .ok (.iload_n 1, 1) := by decide +kernel
theorem dX6_setRent_45 : decode cX6_setRent 45 = .ok (.putfield 86, 3) := by decide +kernel
theorem dX6_setRent_48 : decode cX6_setRent 48 = .ok (.iload_n 2, 1) := by decide +kernel
theorem dX6_setRent_49 : decode cX6_setRent 49 = .ok (.ireturn, 1) := by decide +kernel
theorem dX6_forbidSkew_0 : decode cX6_forbidSkew 0 = .ok (.iload_n 1, 1) := by decide +kernel
theorem dX6_forbidSkew_1 : decode cX6_forbidSkew 1 = .ok (.aload_n 0, 1) := by decide +kernel
theorem dX6_forbidSkew_2 : decode cX6_forbidSkew 2 = .ok (.getfield 12, 3) := by decide +kernel
theorem dX6_forbidSkew_5 : decode cX6_forbidSkew 5 = .ok (.getfield 89, 3) := by decide +kernel
theorem dX6_forbidSkew_8 : decode cX6_forbidSkew 8 = .ok (.if_icmp .ne 6, 3) := by decide +kernel
theorem dX6_forbidSkew_11 : decode cX6_forbidSkew 11 = .ok (.bipush (-5), 2) := by decide +kernel
theorem dX6_forbidSkew_13 : decode cX6_forbidSkew 13 = .ok (.ireturn, 1) := by decide +kernel
theorem dX6_forbidSkew_14 : decode cX6_forbidSkew 14 = .ok (.aload_n 0, 1) := by decide +kernel
theorem dX6_forbidSkew_15 : decode cX6_forbidSkew 15 = .ok (.getfield 25, 3) := by decide +kernel
theorem dX6_forbidSkew_18 : decode cX6_forbidSkew 18 = .ok (.aload_n 0, 1) := by decide +kernel
theorem dX6_forbidSkew_19 : decode cX6_forbidSkew 19 = .ok (.getfield 12, 3) := by decide +kernel
theorem dX6_forbidSkew_22 : decode cX6_forbidSkew 22 = .ok (.invokevirtual 44, 3) := by decide +kernel
theorem dX6_forbidSkew_25 : decode cX6_forbidSkew 25 = .ok (.aload_n 0, 1) := by decide +kernel
theorem dX6_forbidSkew_26 : decode cX6_forbidSkew 26 = .ok (.getfield 12, 3) := by decide +kernel
theorem dX6_forbidSkew_29 : decode cX6_forbidSkew 29 = .ok (.iload_n 1, 1) := by decide +kernel
theorem dX6_forbidSkew_30 : decode cX6_forbidSkew 30 = .ok (.putfield 89, 3) := by decide +kernel
theorem dX6_forbidSkew_33 : decode cX6_forbidSkew 33 = .ok (.aload_n 0, 1) := by decide +kernel
theorem dX6_forbidSkew_34 : decode cX6_forbidSkew 34 = .ok (.getfield 12, 3) := by decide +kernel
theorem dX6_forbidSkew_37 : decode cX6_forbidSkew 37 = .ok (.invokevirtual 92, 3) := by decide +kernel
theorem dX6_forbidSkew_40 : decode cX6_forbidSkew 40 = .ok (.ireturn, 1) := by decide +kernel
theorem dX6_tick_0 : decode cX6_tick 0 = .ok (.iload_n 1, 1) := by decide +kernel
theorem dX6_tick_1 : decode cX6_tick 1 = .ok (.iconst 1, 1) := by decide +kernel
theorem dX6_tick_2 : decode cX6_tick 2 = .ok (.if_icmp .lt 9, 3) := by decide +kernel
theorem dX6_tick_5 : decode cX6_tick 5 = .ok (.iload_n 1, 1) := by decide +kernel
theorem dX6_tick_6 : decode cX6_tick 6 = .ok (.bipush 60, 2) := by decide +kernel
theorem dX6_tick_8 : decode cX6_tick 8 = .ok (.if_icmp .le 6, 3) := by decide +kernel
theorem dX6_tick_11 : decode cX6_tick 11 = .ok (.bipush (-2), 2) := by decide +kernel
theorem dX6_tick_13 : decode cX6_tick 13 = .ok (.ireturn, 1) := by decide +kernel
theorem dX6_tick_14 : decode cX6_tick 14 = .ok (.aload_n 0, 1) := by decide +kernel
theorem dX6_tick_15 : decode cX6_tick 15 = .ok (.getfield 25, 3) := by decide +kernel
theorem dX6_tick_18 : decode cX6_tick 18 = .ok (.aload_n 0, 1) := by decide +kernel
theorem dX6_tick_19 : decode cX6_tick 19 = .ok (.getfield 12, 3) := by decide +kernel
theorem dX6_tick_22 : decode cX6_tick 22 = .ok (.invokevirtual 44, 3) := by decide +kernel
theorem dX6_tick_25 : decode cX6_tick 25 = .ok (.aload_n 0, 1) := by decide +kernel
theorem dX6_tick_26 : decode cX6_tick 26 = .ok (.getfield 12, 3) := by decide +kernel
theorem dX6_tick_29 : decode cX6_tick 29 = .ok (.iconst 3, 1) := by decide +kernel
theorem dX6_tick_30 : decode cX6_tick 30 = .ok (.invokevirtual 40, 3) := by decide +kernel
theorem dX6_tick_33 : decode cX6_tick 33 = .ok (.istore_n 2, 1) := by decide +kernel
theorem dX6_tick_34 : decode cX6_tick 34 = .ok (.aload_n 0, 1) := by decide +kernel
theorem dX6_tick_35 : decode cX6_tick 35 = .ok (.getfield 12, 3) := by decide +kernel
theorem dX6_tick_38 : decode cX6_tick 38 = .ok (.iload_n 1, 1) := by decide +kernel
theorem dX6_tick_39 : decode cX6_tick 39 = .ok (.iconst (-1), 1) := by decide +kernel
theorem dX6_tick_40 : decode cX6_tick 40 = .ok (.invokevirtual 95, 3) := by decide +kernel
theorem dX6_tick_43 : decode cX6_tick 43 = .ok (.aload_n 0, 1) := by decide +kernel
theorem dX6_tick_44 : decode cX6_tick 44 = .ok (.getfield 12, 3) := by decide +kernel
theorem dX6_tick_47 : decode cX6_tick 47 = .ok (.iconst 3, 1) := by decide +kernel
theorem dX6_tick_48 : decode cX6_tick 48 = .ok (.invokevirtual 40, 3) := by decide +kernel
theorem dX6_tick_51 : decode cX6_tick 51 = .ok (.iload_n 2, 1) := by decide +kernel
theorem dX6_tick_52 : decode cX6_tick 52 = .ok (.isub, 1) := by decide +kernel
theorem dX6_tick_53 : decode cX6_tick 53 = .ok (.ireturn, 1) := by decide +kernel
theorem dX6_read_0 : decode cX6_read 0 = .ok (.aload_n 0, 1) := by decide +kernel
theorem dX6_read_1 : decode cX6_read 1 = .ok (.getfield 12, 3) := by decide +kernel
theorem dX6_read_4 : decode cX6_read 4 = .ok (.iload_n 1, 1) := by decide +kernel
theorem dX6_read_5 : decode cX6_read 5 = .ok (.invokevirtual 51, 3) := by decide +kernel
theorem dX6_read_8 : decode cX6_read 8 = .ok (.ifCond .eq 10, 3) := by decide +kernel
theorem dX6_read_11 : decode cX6_read 11 = .ok (.iload_n 2, 1) := by decide +kernel
theorem dX6_read_12 : decode cX6_read 12 = .ok (.invokestatic 99, 3) := by decide +kernel
theorem dX6_read_15 : decode cX6_read 15 = .ok (.ifCond .ne 5, 3) := by decide +kernel
theorem dX6_read_18 : decode cX6_read 18 = .ok (.iconst (-1), 1) := by decide +kernel
theorem dX6_read_19 : decode cX6_read 19 = .ok (.ireturn, 1) := by decide +kernel
theorem dX6_read_20 : decode cX6_read 20 = .ok (.aload_n 0, 1) := by decide +kernel
theorem dX6_read_21 : decode cX6_read 21 = .ok (.getfield 12, 3) := by decide +kernel
theorem dX6_read_24 : decode cX6_read 24 = .ok (.getfield 55, 3) := by decide +kernel
theorem dX6_read_27 : decode cX6_read 27 = .ok (.iload_n 1, 1) := by decide +kernel
theorem dX6_read_28 : decode cX6_read 28 = .ok (.aaload, 1) := by decide +kernel
theorem dX6_read_29 : decode cX6_read 29 = .ok (.astore_n 3, 1) := by decide +kernel
theorem dX6_read_30 : decode cX6_read 30 = .ok (.aload_n 3, 1) := by decide +kernel
theorem dX6_read_31 : decode cX6_read 31 = .ok (.invokevirtual 59, 3) := by decide +kernel
theorem dX6_read_34 : decode cX6_read 34 = .ok (.ifCond .ne 6, 3) := by decide +kernel
theorem dX6_read_37 : decode cX6_read 37 = .ok (.bipush (-4), 2) := by decide +kernel
theorem dX6_read_39 : decode cX6_read 39 = .ok (.ireturn, 1) := by decide +kernel
theorem dX6_read_40 : decode cX6_read 40 = .ok (.aload_n 0, 1) := by decide +kernel
theorem dX6_read_41 : decode cX6_read 41 = .ok (.getfield 25, 3) := by decide +kernel
theorem dX6_read_44 : decode cX6_read 44 = .ok (.aload_n 0, 1) := by decide +kernel
theorem dX6_read_45 : decode cX6_read 45 = .ok (.getfield 12, 3) := by decide +kernel
theorem dX6_read_48 : decode cX6_read 48 = .ok (.invokevirtual 44, 3) := by decide +kernel
theorem dX6_read_51 : decode cX6_read 51 = .ok (.aload_n 3, 1) := by decide +kernel
theorem dX6_read_52 : decode cX6_read 52 = .ok (.iload_n 2, 1) := by decide +kernel
theorem dX6_read_53 : decode cX6_read 53 = .ok (.invokevirtual 102, 3) := by decide +kernel
theorem dX6_read_56 : decode cX6_read 56 = .ok (.ifCond .eq 10, 3) := by decide +kernel
theorem dX6_read_59 : decode cX6_read 59 = .ok (.aload_n 3, 1) := by decide +kernel
theorem dX6_read_60 : decode cX6_read 60 = .ok (.getfield 105, 3) := by decide +kernel
theorem dX6_read_63 : decode cX6_read 63 = .ok (.iload_n 2, 1) := by decide +kernel
theorem dX6_read_64 : decode cX6_read 64 = .ok (.iaload, 1) := by decide +kernel
theorem dX6_read_65 : decode cX6_read 65 = .ok (.ireturn, 1) := by decide +kernel
theorem dX6_read_66 : decode cX6_read 66 = .ok (.aload_n 3, 1) := by decide +kernel
theorem dX6_read_67 : decode cX6_read 67 = .ok (.dup, 1) := by decide +kernel
theorem dX6_read_68 : decode cX6_read 68 = .ok (.getfield 109, 3) := by decide +kernel
theorem dX6_read_71 : decode cX6_read 71 = .ok (.iconst 1, 1) := by decide +kernel
theorem dX6_read_72 : decode cX6_read 72 = .ok (.iload_n 2, 1) := by decide +kernel
theorem dX6_read_73 : decode cX6_read 73 = .ok (.ishl, 1) := by decide +kernel
theorem dX6_read_74 : decode cX6_read 74 = .ok (.ior, 1) := by decide +kernel
theorem dX6_read_75 : decode cX6_read 75 = .ok (.putfield 109, 3) := by decide +kernel
theorem dX6_read_78 : decode cX6_read 78 = .ok (.aload_n 0, 1) := by decide +kernel
theorem dX6_read_79 : decode cX6_read 79 = .ok (.getfield 12, 3) := by decide +kernel
theorem dX6_read_82 : decode cX6_read 82 = .ok (.getfield 112, 3) := by decide +kernel
theorem dX6_read_85 : decode cX6_read 85 = .ok (.iload_n 2, 1) := by decide +kernel
theorem dX6_read_86 : decode cX6_read 86 = .ok (.aaload, 1) := by decide +kernel
theorem dX6_read_87 : decode cX6_read 87 = .ok (.aload_n 3, 1) := by decide +kernel
theorem dX6_read_88 : decode cX6_read 88 = .ok (.getfield 116, 3) := by decide +kernel
theorem dX6_read_91 : decode cX6_read 91 = .ok (.invokevirtual 119, 3) := by decide +kernel
theorem dX6_read_94 : decode cX6_read 94 = .ok (.ireturn, 1) := by decide +kernel
theorem dX6_write_0 : decode cX6_write 0 = .ok (.aload_n 0, 1) := by decide +kernel
theorem dX6_write_1 : decode cX6_write 1 = .ok (.getfield 12, 3) := by decide +kernel
theorem dX6_write_4 : decode cX6_write 4 = .ok (.iload_n 1, 1) := by decide +kernel
theorem dX6_write_5 : decode cX6_write 5 = .ok (.invokevirtual 51, 3) := by decide +kernel
theorem dX6_write_8 : decode cX6_write 8 = .ok (.ifCond .eq 10, 3) := by decide +kernel
theorem dX6_write_11 : decode cX6_write 11 = .ok (.iload_n 2, 1) := by decide +kernel
theorem dX6_write_12 : decode cX6_write 12 = .ok (.invokestatic 99, 3) := by decide +kernel
theorem dX6_write_15 : decode cX6_write 15 = .ok (.ifCond .ne 5, 3) := by decide +kernel
theorem dX6_write_18 : decode cX6_write 18 = .ok (.iconst (-1), 1) := by decide +kernel
theorem dX6_write_19 : decode cX6_write 19 = .ok (.ireturn, 1) := by decide +kernel
theorem dX6_write_20 : decode cX6_write 20 = .ok (.iload_n 3, 1) := by decide +kernel
theorem dX6_write_21 : decode cX6_write 21 = .ok (.ifCond .lt 10, 3) := by decide +kernel
theorem dX6_write_24 : decode cX6_write 24 = .ok (.iload_n 3, 1) := by decide +kernel
theorem dX6_write_25 : decode cX6_write 25 = .ok (.sipush 9999, 3) := by decide +kernel
theorem dX6_write_28 : decode cX6_write 28 = .ok (.if_icmp .le 6, 3) := by decide +kernel
theorem dX6_write_31 : decode cX6_write 31 = .ok (.bipush (-2), 2) := by decide +kernel
theorem dX6_write_33 : decode cX6_write 33 = .ok (.ireturn, 1) := by decide +kernel
theorem dX6_write_34 : decode cX6_write 34 = .ok (.aload_n 0, 1) := by decide +kernel
theorem dX6_write_35 : decode cX6_write 35 = .ok (.getfield 12, 3) := by decide +kernel
theorem dX6_write_38 : decode cX6_write 38 = .ok (.getfield 55, 3) := by decide +kernel
theorem dX6_write_41 : decode cX6_write 41 = .ok (.iload_n 1, 1) := by decide +kernel
theorem dX6_write_42 : decode cX6_write 42 = .ok (.aaload, 1) := by decide +kernel
theorem dX6_write_43 : decode cX6_write 43 = .ok (.astore 4, 2) := by decide +kernel
theorem dX6_write_45 : decode cX6_write 45 = .ok (.aload 4, 2) := by decide +kernel
theorem dX6_write_47 : decode cX6_write 47 = .ok (.invokevirtual 59, 3) := by decide +kernel
theorem dX6_write_50 : decode cX6_write 50 = .ok (.ifCond .ne 6, 3) := by decide +kernel
theorem dX6_write_53 : decode cX6_write 53 = .ok (.bipush (-4), 2) := by decide +kernel
theorem dX6_write_55 : decode cX6_write 55 = .ok (.ireturn, 1) := by decide +kernel
theorem dX6_write_56 : decode cX6_write 56 = .ok (.aload_n 0, 1) := by decide +kernel
theorem dX6_write_57 : decode cX6_write 57 = .ok (.getfield 25, 3) := by decide +kernel
theorem dX6_write_60 : decode cX6_write 60 = .ok (.aload_n 0, 1) := by decide +kernel
theorem dX6_write_61 : decode cX6_write 61 = .ok (.getfield 12, 3) := by decide +kernel
theorem dX6_write_64 : decode cX6_write 64 = .ok (.invokevirtual 44, 3) := by decide +kernel
theorem dX6_write_67 : decode cX6_write 67 = .ok (.aload 4, 2) := by decide +kernel
theorem dX6_write_69 : decode cX6_write 69 = .ok (.iload_n 2, 1) := by decide +kernel
theorem dX6_write_70 : decode cX6_write 70 = .ok (.iload_n 3, 1) := by decide +kernel
theorem dX6_write_71 : decode cX6_write 71 = .ok (.invokevirtual 124, 3) := by decide +kernel
theorem dX6_write_74 : decode cX6_write 74 = .ok (.aload 4, 2) := by decide +kernel
theorem dX6_write_76 : decode cX6_write 76 = .ok (.invokevirtual 127, 3) := by decide +kernel
theorem dX6_write_79 : decode cX6_write 79 = .ok (.ireturn, 1) := by decide +kernel
theorem dX6_commit_0 : decode cX6_commit 0 = .ok (.aload_n 0, 1) := by decide +kernel
theorem dX6_commit_1 : decode cX6_commit 1 = .ok (.getfield 12, 3) := by decide +kernel
theorem dX6_commit_4 : decode cX6_commit 4 = .ok (.iload_n 1, 1) := by decide +kernel
theorem dX6_commit_5 : decode cX6_commit 5 = .ok (.invokevirtual 51, 3) := by decide +kernel
theorem dX6_commit_8 : decode cX6_commit 8 = .ok (.ifCond .ne 5, 3) := by decide +kernel
theorem dX6_commit_11 : decode cX6_commit 11 = .ok (.iconst (-1), 1) := by decide +kernel
theorem dX6_commit_12 : decode cX6_commit 12 = .ok (.ireturn, 1) := by decide +kernel
theorem dX6_commit_13 : decode cX6_commit 13 = .ok (.aload_n 0, 1) := by decide +kernel
theorem dX6_commit_14 : decode cX6_commit 14 = .ok (.getfield 12, 3) := by decide +kernel
theorem dX6_commit_17 : decode cX6_commit 17 = .ok (.getfield 55, 3) := by decide +kernel
theorem dX6_commit_20 : decode cX6_commit 20 = .ok (.iload_n 1, 1) := by decide +kernel
theorem dX6_commit_21 : decode cX6_commit 21 = .ok (.aaload, 1) := by decide +kernel
theorem dX6_commit_22 : decode cX6_commit 22 = .ok (.astore_n 2, 1) := by decide +kernel
theorem dX6_commit_23 : decode cX6_commit 23 = .ok (.aload_n 2, 1) := by decide +kernel
theorem dX6_commit_24 : decode cX6_commit 24 = .ok (.invokevirtual 59, 3) := by decide +kernel
theorem dX6_commit_27 : decode cX6_commit 27 = .ok (.ifCond .ne 6, 3) := by decide +kernel
theorem dX6_commit_30 : decode cX6_commit 30 = .ok (.bipush (-4), 2) := by decide +kernel
theorem dX6_commit_32 : decode cX6_commit 32 = .ok (.ireturn, 1) := by decide +kernel
theorem dX6_commit_33 : decode cX6_commit 33 = .ok (.aload_n 0, 1) := by decide +kernel
theorem dX6_commit_34 : decode cX6_commit 34 = .ok (.getfield 12, 3) := by decide +kernel
theorem dX6_commit_37 : decode cX6_commit 37 = .ok (.aload_n 2, 1) := by decide +kernel
theorem dX6_commit_38 : decode cX6_commit 38 = .ok (.invokevirtual 130, 3) := by decide +kernel
theorem dX6_commit_41 : decode cX6_commit 41 = .ok (.ifCond .eq 6, 3) := by decide +kernel
theorem dX6_commit_44 : decode cX6_commit 44 = .ok (.bipush (-6), 2) := by decide +kernel
theorem dX6_commit_46 : decode cX6_commit 46 = .ok (.ireturn, 1) := by decide +kernel
theorem dX6_commit_47 : decode cX6_commit 47 = .ok (.aload_n 0, 1) := by decide +kernel
theorem dX6_commit_48 : decode cX6_commit 48 = .ok (.getfield 12, 3) := by decide +kernel
theorem dX6_commit_51 : decode cX6_commit 51 = .ok (.getfield 89, 3) := by decide +kernel
theorem dX6_commit_54 : decode cX6_commit 54 = .ok (.ifCond .eq 17, 3) := by decide +kernel
theorem dX6_commit_57 : decode cX6_commit 57 = .ok (.aload_n 0, 1) := by decide +kernel
theorem dX6_commit_58 : decode cX6_commit 58 = .ok (.getfield 12, 3) := by decide +kernel
theorem dX6_commit_61 : decode cX6_commit 61 = .ok (.aload_n 2, 1) := by decide +kernel
theorem dX6_commit_62 : decode cX6_commit 62 = .ok (.invokevirtual 134, 3) := by decide +kernel
theorem dX6_commit_65 : decode cX6_commit 65 = .ok (.ifCond .le 6, 3) := by decide +kernel
theorem dX6_commit_68 : decode cX6_commit 68 = .ok (.bipush (-4), 2) := by decide +kernel
theorem dX6_commit_70 : decode cX6_commit 70 = .ok (.ireturn, 1) := by decide +kernel
theorem dX6_commit_71 : decode cX6_commit 71 = .ok (.aload_n 0, 1) := by decide +kernel
theorem dX6_commit_72 : decode cX6_commit 72 = .ok (.getfield 12, 3) := by decide +kernel
theorem dX6_commit_75 : decode cX6_commit 75 = .ok (.iload_n 1, 1) := by decide +kernel
theorem dX6_commit_76 : decode cX6_commit 76 = .ok (.invokevirtual 137, 3) := by decide +kernel
theorem dX6_commit_79 : decode cX6_commit 79 = .ok (.bipush 40, 2) := by decide +kernel
theorem dX6_commit_81 : decode cX6_commit 81 = .ok (.if_icmp .le 6, 3) := by decide +kernel
theorem dX6_commit_84 : decode cX6_commit 84 = .ok (.bipush (-3), 2) := by decide +kernel
theorem dX6_commit_86 : decode cX6_commit 86 = .ok (.ireturn, 1) := by decide +kernel
theorem dX6_commit_87 : decode cX6_commit 87 = .ok (.aload_n 0, 1) := by decide +kernel
theorem dX6_commit_88 : decode cX6_commit 88 = .ok (.getfield 25, 3) := by decide +kernel
theorem dX6_commit_91 : decode cX6_commit 91 = .ok (.aload_n 0, 1) := by decide +kernel
theorem dX6_commit_92 : decode cX6_commit 92 = .ok (.getfield 12, 3) := by decide +kernel
theorem dX6_commit_95 : decode cX6_commit 95 = .ok (.invokevirtual 44, 3) := by decide +kernel
theorem dX6_commit_98 : decode cX6_commit 98 = .ok (.aload_n 0, 1) := by decide +kernel
theorem dX6_commit_99 : decode cX6_commit 99 = .ok (.getfield 12, 3) := by decide +kernel
theorem dX6_commit_102 : decode cX6_commit 102 = .ok (.iload_n 1, 1) := by decide +kernel
theorem dX6_commit_103 : decode cX6_commit 103 = .ok (.invokevirtual 140, 3) := by decide +kernel
theorem dX6_commit_106 : decode cX6_commit 106 = .ok (.aload_n 0, 1) := by decide +kernel
theorem dX6_commit_107 : decode cX6_commit 107 = .ok (.getfield 12, 3) := by decide +kernel
theorem dX6_commit_110 : decode cX6_commit 110 = .ok (.getfield 144, 3) := by decide +kernel
theorem dX6_commit_113 : decode cX6_commit 113 = .ok (.ireturn, 1) := by decide +kernel
theorem dX6_undo_0 : decode cX6_undo 0 = .ok (.aload_n 0, 1) := by decide +kernel
theorem dX6_undo_1 : decode cX6_undo 1 = .ok (.getfield 25, 3) := by decide +kernel
theorem dX6_undo_4 : decode cX6_undo 4 = .ok (.getfield 165, 3) := by decide +kernel
theorem dX6_undo_7 : decode cX6_undo 7 = .ok (.ifCond .ne 6, 3) := by decide +kernel
theorem dX6_undo_10 : decode cX6_undo 10 = .ok (.bipush (-5), 2) := by decide +kernel
theorem dX6_undo_12 : decode cX6_undo 12 = .ok (.ireturn, 1) := by decide +kernel
theorem dX6_undo_13 : decode cX6_undo 13 = .ok (.aload_n 0, 1) := by decide +kernel
theorem dX6_undo_14 : decode cX6_undo 14 = .ok (.getfield 25, 3) := by decide +kernel
theorem dX6_undo_17 : decode cX6_undo 17 = .ok (.aload_n 0, 1) := by decide +kernel
theorem dX6_undo_18 : decode cX6_undo 18 = .ok (.getfield 12, 3) := by decide +kernel
theorem dX6_undo_21 : decode cX6_undo 21 = .ok (.invokevirtual 166, 3) := by decide +kernel
theorem dX6_undo_24 : decode cX6_undo 24 = .ok (.aload_n 0, 1) := by decide +kernel
theorem dX6_undo_25 : decode cX6_undo 25 = .ok (.getfield 25, 3) := by decide +kernel
theorem dX6_undo_28 : decode cX6_undo 28 = .ok (.getfield 165, 3) := by decide +kernel
theorem dX6_undo_31 : decode cX6_undo 31 = .ok (.ireturn, 1) := by decide +kernel
theorem dX6_cell_0 : decode cX6_cell 0 = .ok (.iload_n 1, 1) := by decide +kernel
theorem dX6_cell_1 : decode cX6_cell 1 = .ok (.invokestatic 99, 3) := by decide +kernel
theorem dX6_cell_4 : decode cX6_cell 4 = .ok (.ifCond .ne 5, 3) := by decide +kernel
theorem dX6_cell_7 : decode cX6_cell 7 = .ok (.iconst (-1), 1) := by decide +kernel
theorem dX6_cell_8 : decode cX6_cell 8 = .ok (.ireturn, 1) := by decide +kernel
theorem dX6_cell_9 : decode cX6_cell 9 = .ok (.aload_n 0, 1) := by decide +kernel
theorem dX6_cell_10 : decode cX6_cell 10 = .ok (.getfield 12, 3) := by decide +kernel
theorem dX6_cell_13 : decode cX6_cell 13 = .ok (.getfield 112, 3) := by decide +kernel
theorem dX6_cell_16 : decode cX6_cell 16 = .ok (.iload_n 1, 1) := by decide +kernel
theorem dX6_cell_17 : decode cX6_cell 17 = .ok (.aaload, 1) := by decide +kernel
theorem dX6_cell_18 : decode cX6_cell 18 = .ok (.astore_n 3, 1) := by decide +kernel
theorem dX6_cell_19 : decode cX6_cell 19 = .ok (.iload_n 2, 1) := by decide +kernel
theorem dX6_cell_20 : decode cX6_cell 20 = .ok (.tableswitch 74 0 4 #[36, 43, 50, 55, 65], 36) := by decide +kernel
theorem dX6_cell_56 : decode cX6_cell 56 = .ok (.aload_n 3, 1) := by decide +kernel
theorem dX6_cell_57 : decode cX6_cell 57 = .ok (.getfield 175, 3) := by decide +kernel
theorem dX6_cell_60 : decode cX6_cell 60 = .ok (.iconst 0, 1) := by decide +kernel
theorem dX6_cell_61 : decode cX6_cell 61 = .ok (.iaload, 1) := by decide +kernel
theorem dX6_cell_62 : decode cX6_cell 62 = .ok (.ireturn, 1) := by decide +kernel
theorem dX6_cell_63 : decode cX6_cell 63 = .ok (.aload_n 3, 1) := by decide +kernel
theorem dX6_cell_64 : decode cX6_cell 64 = .ok (.getfield 176, 3) := by decide +kernel
theorem dX6_cell_67 : decode cX6_cell 67 = .ok (.iconst 0, 1) := by decide +kernel
theorem dX6_cell_68 : decode cX6_cell 68 = .ok (.iaload, 1) := by decide +kernel
theorem dX6_cell_69 : decode cX6_cell 69 = .ok (.ireturn, 1) := by decide +kernel
theorem dX6_cell_70 : decode cX6_cell 70 = .ok (.aload_n 3, 1) := by decide +kernel
theorem dX6_cell_71 : decode cX6_cell 71 = .ok (.getfield 179, 3) := by decide +kernel
theorem dX6_cell_74 : decode cX6_cell 74 = .ok (.ireturn, 1) := by decide +kernel
theorem dX6_cell_75 : decode cX6_cell 75 = .ok (.aload_n 0, 1) := by decide +kernel
theorem dX6_cell_76 : decode cX6_cell 76 = .ok (.getfield 12, 3) := by decide +kernel
theorem dX6_cell_79 : decode cX6_cell 79 = .ok (.aload_n 3, 1) := by decide +kernel
theorem dX6_cell_80 : decode cX6_cell 80 = .ok (.iconst 0, 1) := by decide +kernel
theorem dX6_cell_81 : decode cX6_cell 81 = .ok (.invokevirtual 182, 3) := by decide +kernel
theorem dX6_cell_84 : decode cX6_cell 84 = .ok (.ireturn, 1) := by decide +kernel
theorem dX6_cell_85 : decode cX6_cell 85 = .ok (.aload_n 0, 1) := by decide +kernel
theorem dX6_cell_86 : decode cX6_cell 86 = .ok (.getfield 12, 3) := by decide +kernel
theorem dX6_cell_89 : decode cX6_cell 89 = .ok (.iload_n 1, 1) := by decide +kernel
theorem dX6_cell_90 : decode cX6_cell 90 = .ok (.invokevirtual 186, 3) := by decide +kernel
theorem dX6_cell_93 : decode cX6_cell 93 = .ok (.ireturn, 1) := by decide +kernel
theorem dX6_cell_94 : decode cX6_cell 94 = .ok (.bipush (-2), 2) := by decide +kernel
theorem dX6_cell_96 : decode cX6_cell 96 = .ok (.ireturn, 1) := by decide +kernel
theorem dX6_version_0 : decode cX6_version 0 = .ok (.iload_n 1, 1) := by decide +kernel
theorem dX6_version_1 : decode cX6_version 1 = .ok (.invokestatic 99, 3) := by decide +kernel
theorem dX6_version_4 : decode cX6_version 4 = .ok (.ifCond .ne 5, 3) := by decide +kernel
theorem dX6_version_7 : decode cX6_version 7 = .ok (.iconst (-1), 1) := by decide +kernel
theorem dX6_version_8 : decode cX6_version 8 = .ok (.ireturn, 1) := by decide +kernel
theorem dX6_version_9 : decode cX6_version 9 = .ok (.iload_n 2, 1) := by decide +kernel
theorem dX6_version_10 : decode cX6_version 10 = .ok (.ifCond .lt 12, 3) := by decide +kernel
theorem dX6_version_13 : decode cX6_version 13 = .ok (.iload_n 3, 1) := by decide +kernel
theorem dX6_version_14 : decode cX6_version 14 = .ok (.ifCond .lt 8, 3) := by decide +kernel
theorem dX6_version_17 : decode cX6_version 17 = .ok (.iload_n 3, 1) := by decide +kernel
theorem dX6_version_18 : decode cX6_version 18 = .ok (.iconst 4, 1) := by decide +kernel
theorem dX6_version_19 : decode cX6_version 19 = .ok (.if_icmp .le 6, 3) := by decide +kernel
theorem dX6_version_22 : decode cX6_version 22 = .ok (.bipush (-2), 2) := by decide +kernel
theorem dX6_version_24 : decode cX6_version 24 = .ok (.ireturn, 1) := by decide +kernel
theorem dX6_version_25 : decode cX6_version 25 = .ok (.aload_n 0, 1) := by decide +kernel
theorem dX6_version_26 : decode cX6_version 26 = .ok (.getfield 12, 3) := by decide +kernel
theorem dX6_version_29 : decode cX6_version 29 = .ok (.getfield 112, 3) := by decide +kernel
theorem dX6_version_32 : decode cX6_version 32 = .ok (.iload_n 1, 1) := by decide +kernel
theorem dX6_version_33 : decode cX6_version 33 = .ok (.aaload, 1) := by decide +kernel
theorem dX6_version_34 : decode cX6_version 34 = .ok (.astore 4, 2) := by decide +kernel
theorem dX6_version_36 : decode cX6_version 36 = .ok (.iload_n 2, 1) := by decide +kernel
theorem dX6_version_37 : decode cX6_version 37 = .ok (.aload 4, 2) := by decide +kernel
theorem dX6_version_39 : decode cX6_version 39 = .ok (.getfield 179, 3) := by decide +kernel
theorem dX6_version_42 : decode cX6_version 42 = .ok (.if_icmp .lt 6, 3) := by decide +kernel
theorem dX6_version_45 : decode cX6_version 45 = .ok (.bipush (-5), 2) := by decide +kernel
theorem dX6_version_47 : decode cX6_version 47 = .ok (.ireturn, 1) := by decide +kernel
theorem dX6_version_48 : decode cX6_version 48 = .ok (.iload_n 3, 1) := by decide +kernel
theorem dX6_version_49 : decode cX6_version 49 = .ok (.tableswitch 69 0 3 #[31, 39, 47, 58], 31) := by decide +kernel
theorem dX6_version_80 : decode cX6_version 80 = .ok (.aload 4, 2) := by decide +kernel
theorem dX6_version_82 : decode cX6_version 82 = .ok (.getfield 175, 3) := by decide +kernel
theorem dX6_version_85 : decode cX6_version 85 = .ok (.iload_n 2, 1) := by decide +kernel
theorem dX6_version_86 : decode cX6_version 86 = .ok (.iaload, 1) := by decide +kernel
theorem dX6_version_87 : decode cX6_version 87 = .ok (.ireturn, 1) := by decide +kernel
theorem dX6_version_88 : decode cX6_version 88 = .ok (.aload 4, 2) := by decide +kernel
theorem dX6_version_90 : decode cX6_version 90 = .ok (.getfield 176, 3) := by decide +kernel
theorem dX6_version_93 : decode cX6_version 93 = .ok (.iload_n 2, 1) := by decide +kernel
theorem dX6_version_94 : decode cX6_version 94 = .ok (.iaload, 1) := by decide +kernel
theorem dX6_version_95 : decode cX6_version 95 = .ok (.ireturn, 1) := by decide +kernel
theorem dX6_version_96 : decode cX6_version 96 = .ok (.aload_n 0, 1) := by decide +kernel
theorem dX6_version_97 : decode cX6_version 97 = .ok (.getfield 12, 3) := by decide +kernel
theorem dX6_version_100 : decode cX6_version 100 = .ok (.aload 4, 2) := by decide +kernel
theorem dX6_version_102 : decode cX6_version 102 = .ok (.iload_n 2, 1) := by decide +kernel
theorem dX6_version_103 : decode cX6_version 103 = .ok (.invokevirtual 182, 3) := by decide +kernel
theorem dX6_version_106 : decode cX6_version 106 = .ok (.ireturn, 1) := by decide +kernel
theorem dX6_version_107 : decode cX6_version 107 = .ok (.aload_n 0, 1) := by decide +kernel
theorem dX6_version_108 : decode cX6_version 108 = .ok (.getfield 12, 3) := by decide +kernel
theorem dX6_version_111 : decode cX6_version 111 = .ok (.aload 4, 2) := by decide +kernel
theorem dX6_version_113 : decode cX6_version 113 = .ok (.iload_n 2, 1) := by decide +kernel
theorem dX6_version_114 : decode cX6_version 114 = .ok (.invokevirtual 189, 3) := by decide +kernel
theorem dX6_version_117 : decode cX6_version 117 = .ok (.ireturn, 1) := by decide +kernel
theorem dX6_version_118 : decode cX6_version 118 = .ok (.aload_n 0, 1) := by decide +kernel
theorem dX6_version_119 : decode cX6_version 119 = .ok (.getfield 12, 3) := by decide +kernel
theorem dX6_version_122 : decode cX6_version 122 = .ok (.aload 4, 2) := by decide +kernel
theorem dX6_version_124 : decode cX6_version 124 = .ok (.iload_n 2, 1) := by decide +kernel
theorem dX6_version_125 : decode cX6_version 125 = .ok (.invokevirtual 192, 3) := by decide +kernel
theorem dX6_version_128 : decode cX6_version 128 = .ok (.ireturn, 1) := by decide +kernel
theorem dX6_reader_0 : decode cX6_reader 0 = .ok (.aload_n 0, 1) := by decide +kernel
theorem dX6_reader_1 : decode cX6_reader 1 = .ok (.getfield 12, 3) := by decide +kernel
theorem dX6_reader_4 : decode cX6_reader 4 = .ok (.iload_n 1, 1) := by decide +kernel
theorem dX6_reader_5 : decode cX6_reader 5 = .ok (.invokevirtual 51, 3) := by decide +kernel
theorem dX6_reader_8 : decode cX6_reader 8 = .ok (.ifCond .ne 5, 3) := by decide +kernel
theorem dX6_reader_11 : decode cX6_reader 11 = .ok (.iconst (-1), 1) := by decide +kernel
theorem dX6_reader_12 : decode cX6_reader 12 = .ok (.ireturn, 1) := by decide +kernel
theorem dX6_reader_13 : decode cX6_reader 13 = .ok (.aload_n 0, 1) := by decide +kernel
theorem dX6_reader_14 : decode cX6_reader 14 = .ok (.getfield 12, 3) := by decide +kernel
theorem dX6_reader_17 : decode cX6_reader 17 = .ok (.getfield 55, 3) := by decide +kernel
theorem dX6_reader_20 : decode cX6_reader 20 = .ok (.iload_n 1, 1) := by decide +kernel
theorem dX6_reader_21 : decode cX6_reader 21 = .ok (.aaload, 1) := by decide +kernel
theorem dX6_reader_22 : decode cX6_reader 22 = .ok (.astore_n 3, 1) := by decide +kernel
theorem dX6_reader_23 : decode cX6_reader 23 = .ok (.iload_n 2, 1) := by decide +kernel
theorem dX6_reader_24 : decode cX6_reader 24 = .ok (.tableswitch 192 0 11 #[64, 69, 74, 79, 88, 93, 98, 103, 108, 128, 148, 172], 64) := by decide +kernel
theorem dX6_reader_88 : decode cX6_reader 88 = .ok (.aload_n 3, 1) := by decide +kernel
theorem dX6_reader_89 : decode cX6_reader 89 = .ok (.getfield 79, 3) := by decide +kernel
theorem dX6_reader_92 : decode cX6_reader 92 = .ok (.ireturn, 1) := by decide +kernel
theorem dX6_reader_93 : decode cX6_reader 93 = .ok (.aload_n 3, 1) := by decide +kernel
theorem dX6_reader_94 : decode cX6_reader 94 = .ok (.getfield 116, 3) := by decide +kernel
theorem dX6_reader_97 : decode cX6_reader 97 = .ok (.ireturn, 1) := by decide +kernel
theorem dX6_reader_98 : decode cX6_reader 98 = .ok (.aload_n 3, 1) := by decide +kernel
theorem dX6_reader_99 : decode cX6_reader 99 = .ok (.getfield 65, 3) := by decide +kernel
theorem dX6_reader_102 : decode cX6_reader 102 = .ok (.ireturn, 1) := by decide +kernel
theorem dX6_reader_103 : decode cX6_reader 103 = .ok (.aload_n 0, 1) := by decide +kernel
theorem dX6_reader_104 : decode cX6_reader 104 = .ok (.getfield 12, 3) := by decide +kernel
theorem dX6_reader_107 : decode cX6_reader 107 = .ok (.aload_n 3, 1) := by decide +kernel
theorem dX6_reader_108 : decode cX6_reader 108 = .ok (.invokevirtual 72, 3) := by decide +kernel
theorem dX6_reader_111 : decode cX6_reader 111 = .ok (.ireturn, 1) := by decide +kernel
theorem dX6_reader_112 : decode cX6_reader 112 = .ok (.aload_n 3, 1) := by decide +kernel
theorem dX6_reader_113 : decode cX6_reader 113 = .ok (.getfield 109, 3) := by decide +kernel
theorem dX6_reader_116 : decode cX6_reader 116 = .ok (.ireturn, 1) := by decide +kernel
theorem dX6_reader_117 : decode cX6_reader 117 = .ok (.aload_n 3, 1) := by decide +kernel
theorem dX6_reader_118 : decode cX6_reader 118 = .ok (.getfield 195, 3) := by decide +kernel
theorem dX6_reader_121 : decode cX6_reader 121 = .ok (.ireturn, 1) := by decide +kernel
theorem dX6_reader_122 : decode cX6_reader 122 = .ok (.aload_n 3, 1) := by decide +kernel
theorem dX6_reader_123 : decode cX6_reader 123 = .ok (.getfield 76, 3) := by decide +kernel
theorem dX6_reader_126 : decode cX6_reader 126 = .ok (.ireturn, 1) := by decide +kernel
theorem dX6_reader_127 : decode cX6_reader 127 = .ok (.aload_n 3, 1) := by decide +kernel
theorem dX6_reader_128 : decode cX6_reader 128 = .ok (.getfield 198, 3) := by decide +kernel
theorem dX6_reader_131 : decode cX6_reader 131 = .ok (.ireturn, 1) := by decide +kernel
theorem dX6_reader_132 : decode cX6_reader 132 = .ok (.aload_n 3, 1) := by decide +kernel
theorem dX6_reader_133 : decode cX6_reader 133 = .ok (.invokevirtual 59, 3) := by decide +kernel
theorem dX6_reader_136 : decode cX6_reader 136 = .ok (.ifCond .eq 14, 3) := by decide +kernel
theorem dX6_reader_139 : decode cX6_reader 139 = .ok (.aload_n 0, 1) := by decide +kernel
theorem dX6_reader_140 : decode cX6_reader 140 = .ok (.getfield 12, 3) := by decide +kernel
theorem dX6_reader_143 : decode cX6_reader 143 = .ok (.aload_n 3, 1) := by decide +kernel
theorem dX6_reader_144 : decode cX6_reader 144 = .ok (.invokevirtual 201, 3) := by decide +kernel
theorem dX6_reader_147 : decode cX6_reader 147 = .ok (.goto 4, 3) := by decide +kernel
theorem dX6_reader_150 : decode cX6_reader 150 = .ok (.iconst 0, 1) := by decide +kernel
theorem dX6_reader_151 : decode cX6_reader 151 = .ok (.ireturn, 1) := by decide +kernel
theorem dX6_reader_152 : decode cX6_reader 152 = .ok (.aload_n 3, 1) := by decide +kernel
theorem dX6_reader_153 : decode cX6_reader 153 = .ok (.invokevirtual 59, 3) := by decide +kernel
theorem dX6_reader_156 : decode cX6_reader 156 = .ok (.ifCond .eq 14, 3) := by decide +kernel
theorem dX6_reader_159 : decode cX6_reader 159 = .ok (.aload_n 0, 1) := by decide +kernel
theorem dX6_reader_160 : decode cX6_reader 160 = .ok (.getfield 12, 3) := by decide +kernel
theorem dX6_reader_163 : decode cX6_reader 163 = .ok (.aload_n 3, 1) := by decide +kernel
theorem dX6_reader_164 : decode cX6_reader 164 = .ok (.invokevirtual 204, 3) := by decide +kernel
theorem dX6_reader_167 : decode cX6_reader 167 = .ok (.goto 4, 3) := by decide +kernel
theorem dX6_reader_170 : decode cX6_reader 170 = .ok (.iconst 0, 1) := by decide +kernel
theorem dX6_reader_171 : decode cX6_reader 171 = .ok (.ireturn, 1) := by decide +kernel
theorem dX6_reader_172 : decode cX6_reader 172 = .ok (.aload_n 3, 1) := by decide +kernel
theorem dX6_reader_173 : decode cX6_reader 173 = .ok (.invokevirtual 59, 3) := by decide +kernel
theorem dX6_reader_176 : decode cX6_reader 176 = .ok (.ifCond .eq 18, 3) := by decide +kernel
theorem dX6_reader_179 : decode cX6_reader 179 = .ok (.aload_n 0, 1) := by decide +kernel
theorem dX6_reader_180 : decode cX6_reader 180 = .ok (.getfield 12, 3) := by decide +kernel
theorem dX6_reader_183 : decode cX6_reader 183 = .ok (.aload_n 3, 1) := by decide +kernel
theorem dX6_reader_184 : decode cX6_reader 184 = .ok (.invokevirtual 130, 3) := by decide +kernel
theorem dX6_reader_187 : decode cX6_reader 187 = .ok (.ifCond .eq 7, 3) := by decide +kernel
theorem dX6_reader_190 : decode cX6_reader 190 = .ok (.iconst 1, 1) := by decide +kernel
theorem dX6_reader_191 : decode cX6_reader 191 = .ok (.goto 4, 3) := by decide +kernel
theorem dX6_reader_194 : decode cX6_reader 194 = .ok (.iconst 0, 1) := by decide +kernel
theorem dX6_reader_195 : decode cX6_reader 195 = .ok (.ireturn, 1) := by decide +kernel
theorem dX6_reader_196 : decode cX6_reader 196 = .ok (.aload_n 3, 1) := by decide +kernel
theorem dX6_reader_197 : decode cX6_reader 197 = .ok (.invokevirtual 59, 3) := by decide +kernel
theorem dX6_reader_200 : decode cX6_reader 200 = .ok (.ifCond .eq 14, 3) := by decide +kernel
theorem dX6_reader_203 : decode cX6_reader 203 = .ok (.aload_n 0, 1) := by decide +kernel
theorem dX6_reader_204 : decode cX6_reader 204 = .ok (.getfield 12, 3) := by decide +kernel
theorem dX6_reader_207 : decode cX6_reader 207 = .ok (.aload_n 3, 1) := by decide +kernel
theorem dX6_reader_208 : decode cX6_reader 208 = .ok (.invokevirtual 134, 3) := by decide +kernel
theorem dX6_reader_211 : decode cX6_reader 211 = .ok (.goto 4, 3) := by decide +kernel
theorem dX6_reader_214 : decode cX6_reader 214 = .ok (.iconst 0, 1) := by decide +kernel
theorem dX6_reader_215 : decode cX6_reader 215 = .ok (.ireturn, 1) := by decide +kernel
theorem dX6_reader_216 : decode cX6_reader 216 = .ok (.bipush (-2), 2) := by decide +kernel
theorem dX6_reader_218 : decode cX6_reader 218 = .ok (.ireturn, 1) := by decide +kernel
theorem dX6_committed_0 : decode cX6_committed 0 = .ok (.iload_n 1, 1) := by decide +kernel
theorem dX6_committed_1 : decode cX6_committed 1 = .ok (.ifCond .lt 14, 3) := by decide +kernel
theorem dX6_committed_4 : decode cX6_committed 4 = .ok (.iload_n 1, 1) := by decide +kernel
theorem dX6_committed_5 : decode cX6_committed 5 = .ok (.aload_n 0, 1) := by decide +kernel
theorem dX6_committed_6 : decode cX6_committed 6 = .ok (.getfield 12, 3) := by decide +kernel
theorem dX6_committed_9 : decode cX6_committed 9 = .ok (.getfield 210, 3) := by decide +kernel
theorem dX6_committed_12 : decode cX6_committed 12 = .ok (.if_icmp .lt 5, 3) := by decide +kernel
theorem dX6_committed_15 : decode cX6_committed 15 = .ok (.iconst (-1), 1) := by decide +kernel
theorem dX6_committed_16 : decode cX6_committed 16 = .ok (.ireturn, 1) := by decide +kernel
theorem dX6_committed_17 : decode cX6_committed 17 = .ok (.aload_n 0, 1) := by decide +kernel
theorem dX6_committed_18 : decode cX6_committed 18 = .ok (.getfield 12, 3) := by decide +kernel
theorem dX6_committed_21 : decode cX6_committed 21 = .ok (.getfield 213, 3) := by decide +kernel
theorem dX6_committed_24 : decode cX6_committed 24 = .ok (.iload_n 1, 1) := by decide +kernel
theorem dX6_committed_25 : decode cX6_committed 25 = .ok (.aaload, 1) := by decide +kernel
theorem dX6_committed_26 : decode cX6_committed 26 = .ok (.astore_n 3, 1) := by decide +kernel
theorem dX6_committed_27 : decode cX6_committed 27 = .ok (.iload_n 2, 1) := by decide +kernel
theorem dX6_committed_28 : decode cX6_committed 28 = .ok (.tableswitch 70 0 5 #[40, 45, 50, 55, 60, 65], 40) := by decide +kernel
theorem dX6_committed_68 : decode cX6_committed 68 = .ok (.aload_n 3, 1) := by decide +kernel
theorem dX6_committed_69 : decode cX6_committed 69 = .ok (.getfield 217, 3) := by decide +kernel
theorem dX6_committed_72 : decode cX6_committed 72 = .ok (.ireturn, 1) := by decide +kernel
theorem dX6_committed_73 : decode cX6_committed 73 = .ok (.aload_n 3, 1) := by decide +kernel
theorem dX6_committed_74 : decode cX6_committed 74 = .ok (.getfield 222, 3) := by decide +kernel
theorem dX6_committed_77 : decode cX6_committed 77 = .ok (.ireturn, 1) := by decide +kernel
theorem dX6_committed_78 : decode cX6_committed 78 = .ok (.aload_n 3, 1) := by decide +kernel
theorem dX6_committed_79 : decode cX6_committed 79 = .ok (.getfield 225, 3) := by decide +kernel
theorem dX6_committed_82 : decode cX6_committed 82 = .ok (.ireturn, 1) := by decide +kernel
theorem dX6_committed_83 : decode cX6_committed 83 = .ok (.aload_n 3, 1) := by decide +kernel
theorem dX6_committed_84 : decode cX6_committed 84 = .ok (.getfield 228, 3) := by decide +kernel
theorem dX6_committed_87 : decode cX6_committed 87 = .ok (.ireturn, 1) := by decide +kernel
theorem dX6_committed_88 : decode cX6_committed 88 = .ok (.aload_n 3, 1) := by decide +kernel
theorem dX6_committed_89 : decode cX6_committed 89 = .ok (.getfield 229, 3) := by decide +kernel
theorem dX6_committed_92 : decode cX6_committed 92 = .ok (.ireturn, 1) := by decide +kernel
theorem dX6_committed_93 : decode cX6_committed 93 = .ok (.aload_n 3, 1) := by decide +kernel
theorem dX6_committed_94 : decode cX6_committed 94 = .ok (.getfield 230, 3) := by decide +kernel
theorem dX6_committed_97 : decode cX6_committed 97 = .ok (.ireturn, 1) := by decide +kernel
theorem dX6_committed_98 : decode cX6_committed 98 = .ok (.bipush (-2), 2) := by decide +kernel
theorem dX6_committed_100 : decode cX6_committed 100 = .ok (.ireturn, 1) := by decide +kernel
theorem dX6_count_0 : decode cX6_count 0 = .ok (.iload_n 1, 1) := by decide +kernel
theorem dX6_count_1 : decode cX6_count 1 = .ok (.tableswitch 231 0 16 #[83, 91, 99, 107, 116, 125, 134, 143, 151, 159, 167, 175, 183, 191, 207, 215, 223], 83) := by decide +kernel
theorem dX6_count_84 : decode cX6_count 84 = .ok (.aload_n 0, 1) := by decide +kernel
theorem dX6_count_85 : decode cX6_count 85 = .ok (.getfield 12, 3) := by decide +kernel
theorem dX6_count_88 : decode cX6_count 88 = .ok (.getfield 144, 3) := by decide +kernel
theorem dX6_count_91 : decode cX6_count 91 = .ok (.ireturn, 1) := by decide +kernel
theorem dX6_count_92 : decode cX6_count 92 = .ok (.aload_n 0, 1) := by decide +kernel
theorem dX6_count_93 : decode cX6_count 93 = .ok (.getfield 12, 3) := by decide +kernel
theorem dX6_count_96 : decode cX6_count 96 = .ok (.getfield 207, 3) := by decide +kernel
theorem dX6_count_99 : decode cX6_count 99 = .ok (.ireturn, 1) := by decide +kernel
theorem dX6_count_100 : decode cX6_count 100 = .ok (.aload_n 0, 1) := by decide +kernel
theorem dX6_count_101 : decode cX6_count 101 = .ok (.getfield 12, 3) := by decide +kernel
theorem dX6_count_104 : decode cX6_count 104 = .ok (.getfield 36, 3) := by decide +kernel
theorem dX6_count_107 : decode cX6_count 107 = .ok (.ireturn, 1) := by decide +kernel
theorem dX6_count_108 : decode cX6_count 108 = .ok (.aload_n 0, 1) := by decide +kernel
theorem dX6_count_109 : decode cX6_count 109 = .ok (.getfield 12, 3) := by decide +kernel
theorem dX6_count_112 : decode cX6_count 112 = .ok (.iconst 0, 1) := by decide +kernel
theorem dX6_count_113 : decode cX6_count 113 = .ok (.invokevirtual 40, 3) := by decide +kernel
theorem dX6_count_116 : decode cX6_count 116 = .ok (.ireturn, 1) := by decide +kernel
theorem dX6_count_117 : decode cX6_count 117 = .ok (.aload_n 0, 1) := by decide +kernel
theorem dX6_count_118 : decode cX6_count 118 = .ok (.getfield 12, 3) := by decide +kernel
theorem dX6_count_121 : decode cX6_count 121 = .ok (.iconst 1, 1) := by decide +kernel
theorem dX6_count_122 : decode cX6_count 122 = .ok (.invokevirtual 40, 3) := by decide +kernel
theorem dX6_count_125 : decode cX6_count 125 = .ok (.ireturn, 1) := by decide +kernel
theorem dX6_count_126 : decode cX6_count 126 = .ok (.aload_n 0, 1) := by decide +kernel
theorem dX6_count_127 : decode cX6_count 127 = .ok (.getfield 12, 3) := by decide +kernel
theorem dX6_count_130 : decode cX6_count 130 = .ok (.iconst 2, 1) := by decide +kernel
theorem dX6_count_131 : decode cX6_count 131 = .ok (.invokevirtual 40, 3) := by decide +kernel
theorem dX6_count_134 : decode cX6_count 134 = .ok (.ireturn, 1) := by decide +kernel
theorem dX6_count_135 : decode cX6_count 135 = .ok (.aload_n 0, 1) := by decide +kernel
theorem dX6_count_136 : decode cX6_count 136 = .ok (.getfield 12, 3) := by decide +kernel
theorem dX6_count_139 : decode cX6_count 139 = .ok (.iconst 3, 1) := by decide +kernel
theorem dX6_count_140 : decode cX6_count 140 = .ok (.invokevirtual 40, 3) := by decide +kernel
theorem dX6_count_143 : decode cX6_count 143 = .ok (.ireturn, 1) := by decide +kernel
theorem dX6_count_144 : decode cX6_count 144 = .ok (.aload_n 0, 1) := by decide +kernel
theorem dX6_count_145 : decode cX6_count 145 = .ok (.getfield 12, 3) := by decide +kernel
theorem dX6_count_148 : decode cX6_count 148 = .ok (.invokevirtual 233, 3) := by decide +kernel
theorem dX6_count_151 : decode cX6_count 151 = .ok (.ireturn, 1) := by decide +kernel
theorem dX6_count_152 : decode cX6_count 152 = .ok (.aload_n 0, 1) := by decide +kernel
theorem dX6_count_153 : decode cX6_count 153 = .ok (.getfield 12, 3) := by decide +kernel
theorem dX6_count_156 : decode cX6_count 156 = .ok (.getfield 236, 3) := by decide +kernel
theorem dX6_count_159 : decode cX6_count 159 = .ok (.ireturn, 1) := by decide +kernel
theorem dX6_count_160 : decode cX6_count 160 = .ok (.aload_n 0, 1) := by decide +kernel
theorem dX6_count_161 : decode cX6_count 161 = .ok (.getfield 12, 3) := by decide +kernel
theorem dX6_count_164 : decode cX6_count 164 = .ok (.getfield 86, 3) := by decide +kernel
theorem dX6_count_167 : decode cX6_count 167 = .ok (.ireturn, 1) := by decide +kernel
theorem dX6_count_168 : decode cX6_count 168 = .ok (.aload_n 0, 1) := by decide +kernel
theorem dX6_count_169 : decode cX6_count 169 = .ok (.getfield 12, 3) := by decide +kernel
theorem dX6_count_172 : decode cX6_count 172 = .ok (.invokevirtual 239, 3) := by decide +kernel
theorem dX6_count_175 : decode cX6_count 175 = .ok (.ireturn, 1) := by decide +kernel
theorem dX6_count_176 : decode cX6_count 176 = .ok (.aload_n 0, 1) := by decide +kernel
theorem dX6_count_177 : decode cX6_count 177 = .ok (.getfield 12, 3) := by decide +kernel
theorem dX6_count_180 : decode cX6_count 180 = .ok (.getfield 210, 3) := by decide +kernel
theorem dX6_count_183 : decode cX6_count 183 = .ok (.ireturn, 1) := by decide +kernel
theorem dX6_count_184 : decode cX6_count 184 = .ok (.aload_n 0, 1) := by decide +kernel
theorem dX6_count_185 : decode cX6_count 185 = .ok (.getfield 12, 3) := by decide +kernel
theorem dX6_count_188 : decode cX6_count 188 = .ok (.invokevirtual 92, 3) := by decide +kernel
theorem dX6_count_191 : decode cX6_count 191 = .ok (.ireturn, 1) := by decide +kernel
theorem dX6_count_192 : decode cX6_count 192 = .ok (.aload_n 0, 1) := by decide +kernel
theorem dX6_count_193 : decode cX6_count 193 = .ok (.getfield 12, 3) := by decide +kernel
theorem dX6_count_196 : decode cX6_count 196 = .ok (.getfield 89, 3) := by decide +kernel
theorem dX6_count_199 : decode cX6_count 199 = .ok (.ifCond .eq 7, 3) := by decide +kernel
theorem dX6_count_202 : decode cX6_count 202 = .ok (.iconst 1, 1) := by decide +kernel
theorem dX6_count_203 : decode cX6_count 203 = .ok (.goto 4, 3) := by decide +kernel
theorem dX6_count_206 : decode cX6_count 206 = .ok (.iconst 0, 1) := by decide +kernel
theorem dX6_count_207 : decode cX6_count 207 = .ok (.ireturn, 1) := by decide +kernel
theorem dX6_count_208 : decode cX6_count 208 = .ok (.aload_n 0, 1) := by decide +kernel
theorem dX6_count_209 : decode cX6_count 209 = .ok (.getfield 12, 3) := by decide +kernel
theorem dX6_count_212 : decode cX6_count 212 = .ok (.invokevirtual 242, 3) := by decide +kernel
theorem dX6_count_215 : decode cX6_count 215 = .ok (.ireturn, 1) := by decide +kernel
theorem dX6_count_216 : decode cX6_count 216 = .ok (.aload_n 0, 1) := by decide +kernel
theorem dX6_count_217 : decode cX6_count 217 = .ok (.getfield 25, 3) := by decide +kernel
theorem dX6_count_220 : decode cX6_count 220 = .ok (.getfield 165, 3) := by decide +kernel
theorem dX6_count_223 : decode cX6_count 223 = .ok (.ireturn, 1) := by decide +kernel
theorem dX6_count_224 : decode cX6_count 224 = .ok (.aload_n 0, 1) := by decide +kernel
theorem dX6_count_225 : decode cX6_count 225 = .ok (.getfield 32, 3) := by decide +kernel
theorem dX6_count_228 : decode cX6_count 228 = .ok (.getfield 145, 3) := by decide +kernel
theorem dX6_count_231 : decode cX6_count 231 = .ok (.ireturn, 1) := by decide +kernel
theorem dX6_count_232 : decode cX6_count 232 = .ok (.bipush (-2), 2) := by decide +kernel
theorem dX6_count_234 : decode cX6_count 234 = .ok (.ireturn, 1) := by decide +kernel
theorem dX6_isCell_0 : decode cX6_isCell 0 = .ok (.iload_n 0, 1) := by decide +kernel
theorem dX6_isCell_1 : decode cX6_isCell 1 = .ok (.ifCond .lt 13, 3) := by decide +kernel
theorem dX6_isCell_4 : decode cX6_isCell 4 = .ok (.iload_n 0, 1) := by decide +kernel
theorem dX6_isCell_5 : decode cX6_isCell 5 = .ok (.bipush 12, 2) := by decide +kernel
theorem dX6_isCell_7 : decode cX6_isCell 7 = .ok (.if_icmp .ge 7, 3) := by decide +kernel
theorem dX6_isCell_10 : decode cX6_isCell 10 = .ok (.iconst 1, 1) := by decide +kernel
theorem dX6_isCell_11 : decode cX6_isCell 11 = .ok (.goto 4, 3) := by decide +kernel
theorem dX6_isCell_14 : decode cX6_isCell 14 = .ok (.iconst 0, 1) := by decide +kernel
theorem dX6_isCell_15 : decode cX6_isCell 15 = .ok (.ireturn, 1) := by decide +kernel
theorem dJ6_bitCount_0f7a4_0 : decode cJ6_bitCount_0f7a4 0 = .ok (.iload_n 0, 1) := by decide +kernel
theorem dJ6_bitCount_0f7a4_1 : decode cJ6_bitCount_0f7a4 1 = .ok (.iload_n 0, 1) := by decide +kernel
theorem dJ6_bitCount_0f7a4_2 : decode cJ6_bitCount_0f7a4 2 = .ok (.iconst 1, 1) := by decide +kernel
theorem dJ6_bitCount_0f7a4_3 : decode cJ6_bitCount_0f7a4 3 = .ok (.iushr, 1) := by decide +kernel
theorem dJ6_bitCount_0f7a4_4 : decode cJ6_bitCount_0f7a4 4 = .ok (.ldc_w 265, 3) := by decide +kernel
theorem dJ6_bitCount_0f7a4_7 : decode cJ6_bitCount_0f7a4 7 = .ok (.iand, 1) := by decide +kernel
theorem dJ6_bitCount_0f7a4_8 : decode cJ6_bitCount_0f7a4 8 = .ok (.isub, 1) := by decide +kernel
theorem dJ6_bitCount_0f7a4_9 : decode cJ6_bitCount_0f7a4 9 = .ok (.istore_n 0, 1) := by decide +kernel
theorem dJ6_bitCount_0f7a4_10 : decode cJ6_bitCount_0f7a4 10 = .ok (.iload_n 0, 1) := by decide +kernel
theorem dJ6_bitCount_0f7a4_11 : decode cJ6_bitCount_0f7a4 11 = .ok (.ldc_w 266, 3) := by decide +kernel
theorem dJ6_bitCount_0f7a4_14 : decode cJ6_bitCount_0f7a4 14 = .ok (.iand, 1) := by decide +kernel
theorem dJ6_bitCount_0f7a4_15 : decode cJ6_bitCount_0f7a4 15 = .ok (.iload_n 0, 1) := by decide +kernel
theorem dJ6_bitCount_0f7a4_16 : decode cJ6_bitCount_0f7a4 16 = .ok (.iconst 2, 1) := by decide +kernel
theorem dJ6_bitCount_0f7a4_17 : decode cJ6_bitCount_0f7a4 17 = .ok (.iushr, 1) := by decide +kernel
theorem dJ6_bitCount_0f7a4_18 : decode cJ6_bitCount_0f7a4 18 = .ok (.ldc_w 266, 3) := by decide +kernel
theorem dJ6_bitCount_0f7a4_21 : decode cJ6_bitCount_0f7a4 21 = .ok (.iand, 1) := by decide +kernel
theorem dJ6_bitCount_0f7a4_22 : decode cJ6_bitCount_0f7a4 22 = .ok (.iadd, 1) := by decide +kernel
theorem dJ6_bitCount_0f7a4_23 : decode cJ6_bitCount_0f7a4 23 = .ok (.istore_n 0, 1) := by decide +kernel
theorem dJ6_bitCount_0f7a4_24 : decode cJ6_bitCount_0f7a4 24 = .ok (.iload_n 0, 1) := by decide +kernel
theorem dJ6_bitCount_0f7a4_25 : decode cJ6_bitCount_0f7a4 25 = .ok (.iload_n 0, 1) := by decide +kernel
theorem dJ6_bitCount_0f7a4_26 : decode cJ6_bitCount_0f7a4 26 = .ok (.iconst 4, 1) := by decide +kernel
theorem dJ6_bitCount_0f7a4_27 : decode cJ6_bitCount_0f7a4 27 = .ok (.iushr, 1) := by decide +kernel
theorem dJ6_bitCount_0f7a4_28 : decode cJ6_bitCount_0f7a4 28 = .ok (.iadd, 1) := by decide +kernel
theorem dJ6_bitCount_0f7a4_29 : decode cJ6_bitCount_0f7a4 29 = .ok (.ldc_w 267, 3) := by decide +kernel
theorem dJ6_bitCount_0f7a4_32 : decode cJ6_bitCount_0f7a4 32 = .ok (.iand, 1) := by decide +kernel
theorem dJ6_bitCount_0f7a4_33 : decode cJ6_bitCount_0f7a4 33 = .ok (.istore_n 0, 1) := by decide +kernel
theorem dJ6_bitCount_0f7a4_34 : decode cJ6_bitCount_0f7a4 34 = .ok (.iload_n 0, 1) := by decide +kernel
theorem dJ6_bitCount_0f7a4_35 : decode cJ6_bitCount_0f7a4 35 = .ok (.iload_n 0, 1) := by decide +kernel
theorem dJ6_bitCount_0f7a4_36 : decode cJ6_bitCount_0f7a4 36 = .ok (.bipush 8, 2) := by decide +kernel
theorem dJ6_bitCount_0f7a4_38 : decode cJ6_bitCount_0f7a4 38 = .ok (.iushr, 1) := by decide +kernel
theorem dJ6_bitCount_0f7a4_39 : decode cJ6_bitCount_0f7a4 39 = .ok (.iadd, 1) := by decide +kernel
theorem dJ6_bitCount_0f7a4_40 : decode cJ6_bitCount_0f7a4 40 = .ok (.istore_n 0, 1) := by decide +kernel
theorem dJ6_bitCount_0f7a4_41 : decode cJ6_bitCount_0f7a4 41 = .ok (.iload_n 0, 1) := by decide +kernel
theorem dJ6_bitCount_0f7a4_42 : decode cJ6_bitCount_0f7a4 42 = .ok (.iload_n 0, 1) := by decide +kernel
theorem dJ6_bitCount_0f7a4_43 : decode cJ6_bitCount_0f7a4 43 = .ok (.bipush 16, 2) := by decide +kernel
theorem dJ6_bitCount_0f7a4_45 : decode cJ6_bitCount_0f7a4 45 = .ok (.iushr, 1) := by decide +kernel
theorem dJ6_bitCount_0f7a4_46 : decode cJ6_bitCount_0f7a4 46 = .ok (.iadd, 1) := by decide +kernel
theorem dJ6_bitCount_0f7a4_47 : decode cJ6_bitCount_0f7a4 47 = .ok (.istore_n 0, 1) := by decide +kernel
theorem dJ6_bitCount_0f7a4_48 : decode cJ6_bitCount_0f7a4 48 = .ok (.iload_n 0, 1) := by decide +kernel
theorem dJ6_bitCount_0f7a4_49 : decode cJ6_bitCount_0f7a4 49 = .ok (.bipush 63, 2) := by decide +kernel
theorem dJ6_bitCount_0f7a4_51 : decode cJ6_bitCount_0f7a4 51 = .ok (.iand, 1) := by decide +kernel
theorem dJ6_bitCount_0f7a4_52 : decode cJ6_bitCount_0f7a4 52 = .ok (.ireturn, 1) := by decide +kernel
theorem dL_cell_0 : decode cL_cell 0 = .ok (.iload_n 1, 1) := by decide +kernel
theorem dL_cell_1 : decode cL_cell 1 = .ok (.aload_n 0, 1) := by decide +kernel
theorem dL_cell_2 : decode cL_cell 2 = .ok (.arraylength, 1) := by decide +kernel
theorem dL_cell_3 : decode cL_cell 3 = .ok (.if_icmp .ge 9, 3) := by decide +kernel
theorem dL_cell_6 : decode cL_cell 6 = .ok (.aload_n 0, 1) := by decide +kernel
theorem dL_cell_7 : decode cL_cell 7 = .ok (.iload_n 1, 1) := by decide +kernel
theorem dL_cell_8 : decode cL_cell 8 = .ok (.iaload, 1) := by decide +kernel
theorem dL_cell_9 : decode cL_cell 9 = .ok (.goto 9, 3) := by decide +kernel
theorem dL_cell_12 : decode cL_cell 12 = .ok (.ldc 7, 2) := by decide +kernel
theorem dL_cell_14 : decode cL_cell 14 = .ok (.iload_n 1, 1) := by decide +kernel
theorem dL_cell_15 : decode cL_cell 15 = .ok (.iconst 3, 1) := by decide +kernel
theorem dL_cell_16 : decode cL_cell 16 = .ok (.iadd, 1) := by decide +kernel
theorem dL_cell_17 : decode cL_cell 17 = .ok (.imul, 1) := by decide +kernel
theorem dL_cell_18 : decode cL_cell 18 = .ok (.ireturn, 1) := by decide +kernel
theorem dL_up_0 : decode cL_up 0 = .ok (.iload_n 0, 1) := by decide +kernel
theorem dL_up_1 : decode cL_up 1 = .ok (.ldc 8, 2) := by decide +kernel
theorem dL_up_3 : decode cL_up 3 = .ok (.iand, 1) := by decide +kernel
theorem dL_up_4 : decode cL_up 4 = .ok (.iload_n 1, 1) := by decide +kernel
theorem dL_up_5 : decode cL_up 5 = .ok (.irem, 1) := by decide +kernel
theorem dL_up_6 : decode cL_up 6 = .ok (.ireturn, 1) := by decide +kernel
theorem dL_view_0 : decode cL_view 0 = .ok (.ldc2_w 9, 3) := by decide +kernel
theorem dL_view_3 : decode cL_view 3 = .ok (.lstore_n 1, 1) := by decide +kernel
theorem dL_view_4 : decode cL_view 4 = .ok (.iconst 0, 1) := by decide +kernel
theorem dL_view_5 : decode cL_view 5 = .ok (.istore_n 3, 1) := by decide +kernel
theorem dL_view_6 : decode cL_view 6 = .ok (.iload_n 3, 1) := by decide +kernel
theorem dL_view_7 : decode cL_view 7 = .ok (.bipush 15, 2) := by decide +kernel
theorem dL_view_9 : decode cL_view 9 = .ok (.if_icmp .ge 22, 3) := by decide +kernel
theorem dL_view_12 : decode cL_view 12 = .ok (.ldc2_w 11, 3) := by decide +kernel
theorem dL_view_15 : decode cL_view 15 = .ok (.lload_n 1, 1) := by decide +kernel
theorem dL_view_16 : decode cL_view 16 = .ok (.lmul, 1) := by decide +kernel
theorem dL_view_17 : decode cL_view 17 = .ok (.aload_n 0, 1) := by decide +kernel
theorem dL_view_18 : decode cL_view 18 = .ok (.iload_n 3, 1) := by decide +kernel
theorem dL_view_19 : decode cL_view 19 = .ok (.invokevirtual 13, 3) := by decide +kernel
theorem dL_view_22 : decode cL_view 22 = .ok (.i2l, 1) := by decide +kernel
theorem dL_view_23 : decode cL_view 23 = .ok (.ladd, 1) := by decide +kernel
theorem dL_view_24 : decode cL_view 24 = .ok (.lstore_n 1, 1) := by decide +kernel
theorem dL_view_25 : decode cL_view 25 = .ok (.iinc 3 1, 3) := by decide +kernel
theorem dL_view_28 : decode cL_view 28 = .ok (.goto (-22), 3) := by decide +kernel
theorem dL_view_31 : decode cL_view 31 = .ok (.iconst 0, 1) := by decide +kernel
theorem dL_view_32 : decode cL_view 32 = .ok (.istore_n 3, 1) := by decide +kernel
theorem dL_view_33 : decode cL_view 33 = .ok (.iload_n 3, 1) := by decide +kernel
theorem dL_view_34 : decode cL_view 34 = .ok (.bipush 12, 2) := by decide +kernel
theorem dL_view_36 : decode cL_view 36 = .ok (.if_icmp .ge 91, 3) := by decide +kernel
theorem dL_view_39 : decode cL_view 39 = .ok (.iconst 0, 1) := by decide +kernel
theorem dL_view_40 : decode cL_view 40 = .ok (.istore 4, 2) := by decide +kernel
theorem dL_view_42 : decode cL_view 42 = .ok (.iload 4, 2) := by decide +kernel
theorem dL_view_44 : decode cL_view 44 = .ok (.iconst 5, 1) := by decide +kernel
theorem dL_view_45 : decode cL_view 45 = .ok (.if_icmp .ge 24, 3) := by decide +kernel
theorem dL_view_48 : decode cL_view 48 = .ok (.ldc2_w 11, 3) := by decide +kernel
theorem dL_view_51 : decode cL_view 51 = .ok (.lload_n 1, 1) := by decide +kernel
theorem dL_view_52 : decode cL_view 52 = .ok (.lmul, 1) := by decide +kernel
theorem dL_view_53 : decode cL_view 53 = .ok (.aload_n 0, 1) := by decide +kernel
theorem dL_view_54 : decode cL_view 54 = .ok (.iload_n 3, 1) := by decide +kernel
theorem dL_view_55 : decode cL_view 55 = .ok (.iload 4, 2) := by decide +kernel
theorem dL_view_57 : decode cL_view 57 = .ok (.invokevirtual 19, 3) := by decide +kernel
theorem dL_view_60 : decode cL_view 60 = .ok (.i2l, 1) := by decide +kernel
theorem dL_view_61 : decode cL_view 61 = .ok (.ladd, 1) := by decide +kernel
theorem dL_view_62 : decode cL_view 62 = .ok (.lstore_n 1, 1) := by decide +kernel
theorem dL_view_63 : decode cL_view 63 = .ok (.iinc 4 1, 3) := by decide +kernel
theorem dL_view_66 : decode cL_view 66 = .ok (.goto (-24), 3) := by decide +kernel
theorem dL_view_69 : decode cL_view 69 = .ok (.iconst 0, 1) := by decide +kernel
theorem dL_view_70 : decode cL_view 70 = .ok (.istore 4, 2) := by decide +kernel
theorem dL_view_72 : decode cL_view 72 = .ok (.iload 4, 2) := by decide +kernel
theorem dL_view_74 : decode cL_view 74 = .ok (.aload_n 0, 1) := by decide +kernel
theorem dL_view_75 : decode cL_view 75 = .ok (.iload_n 3, 1) := by decide +kernel
theorem dL_view_76 : decode cL_view 76 = .ok (.iconst 2, 1) := by decide +kernel
theorem dL_view_77 : decode cL_view 77 = .ok (.invokevirtual 19, 3) := by decide +kernel
theorem dL_view_80 : decode cL_view 80 = .ok (.if_icmp .ge 41, 3) := by decide +kernel
theorem dL_view_83 : decode cL_view 83 = .ok (.iconst 0, 1) := by decide +kernel
theorem dL_view_84 : decode cL_view 84 = .ok (.istore 5, 2) := by decide +kernel
theorem dL_view_86 : decode cL_view 86 = .ok (.iload 5, 2) := by decide +kernel
theorem dL_view_88 : decode cL_view 88 = .ok (.iconst 5, 1) := by decide +kernel
theorem dL_view_89 : decode cL_view 89 = .ok (.if_icmp .ge 26, 3) := by decide +kernel
theorem dL_view_92 : decode cL_view 92 = .ok (.ldc2_w 11, 3) := by decide +kernel
theorem dL_view_95 : decode cL_view 95 = .ok (.lload_n 1, 1) := by decide +kernel
theorem dL_view_96 : decode cL_view 96 = .ok (.lmul, 1) := by decide +kernel
theorem dL_view_97 : decode cL_view 97 = .ok (.aload_n 0, 1) := by decide +kernel
theorem dL_view_98 : decode cL_view 98 = .ok (.iload_n 3, 1) := by decide +kernel
theorem dL_view_99 : decode cL_view 99 = .ok (.iload 4, 2) := by decide +kernel
theorem dL_view_101 : decode cL_view 101 = .ok (.iload 5, 2) := by decide +kernel
theorem dL_view_103 : decode cL_view 103 = .ok (.invokevirtual 23, 3) := by decide +kernel
theorem dL_view_106 : decode cL_view 106 = .ok (.i2l, 1) := by decide +kernel
theorem dL_view_107 : decode cL_view 107 = .ok (.ladd, 1) := by decide +kernel
theorem dL_view_108 : decode cL_view 108 = .ok (.lstore_n 1, 1) := by decide +kernel
theorem dL_view_109 : decode cL_view 109 = .ok (.iinc 5 1, 3) := by decide +kernel
theorem dL_view_112 : decode cL_view 112 = .ok (.goto (-26), 3) := by decide +kernel
theorem dL_view_115 : decode cL_view 115 = .ok (.iinc 4 1, 3) := by decide +kernel
theorem dL_view_118 : decode cL_view 118 = .ok (.goto (-46), 3) := by decide +kernel
theorem dL_view_121 : decode cL_view 121 = .ok (.iinc 3 1, 3) := by decide +kernel
theorem dL_view_124 : decode cL_view 124 = .ok (.goto (-91), 3) := by decide +kernel
theorem dL_view_127 : decode cL_view 127 = .ok (.iconst 0, 1) := by decide +kernel
theorem dL_view_128 : decode cL_view 128 = .ok (.istore_n 3, 1) := by decide +kernel
theorem dL_view_129 : decode cL_view 129 = .ok (.iload_n 3, 1) := by decide +kernel
theorem dL_view_130 : decode cL_view 130 = .ok (.aload_n 0, 1) := by decide +kernel
theorem dL_view_131 : decode cL_view 131 = .ok (.iconst 2, 1) := by decide +kernel
theorem dL_view_132 : decode cL_view 132 = .ok (.invokevirtual 13, 3) := by decide +kernel
theorem dL_view_135 : decode cL_view 135 = .ok (.if_icmp .ge 40, 3) := by decide +kernel
theorem dL_view_138 : decode cL_view 138 = .ok (.iconst 0, 1) := by decide +kernel
theorem dL_view_139 : decode cL_view 139 = .ok (.istore 4, 2) := by decide +kernel
theorem dL_view_141 : decode cL_view 141 = .ok (.iload 4, 2) := by decide +kernel
theorem dL_view_143 : decode cL_view 143 = .ok (.bipush 12, 2) := by decide +kernel
theorem dL_view_145 : decode cL_view 145 = .ok (.if_icmp .ge 24, 3) := by decide +kernel
theorem dL_view_148 : decode cL_view 148 = .ok (.ldc2_w 11, 3) := by decide +kernel
theorem dL_view_151 : decode cL_view 151 = .ok (.lload_n 1, 1) := by decide +kernel
theorem dL_view_152 : decode cL_view 152 = .ok (.lmul, 1) := by decide +kernel
theorem dL_view_153 : decode cL_view 153 = .ok (.aload_n 0, 1) := by decide +kernel
theorem dL_view_154 : decode cL_view 154 = .ok (.iload_n 3, 1) := by decide +kernel
theorem dL_view_155 : decode cL_view 155 = .ok (.iload 4, 2) := by decide +kernel
theorem dL_view_157 : decode cL_view 157 = .ok (.invokevirtual 27, 3) := by decide +kernel
theorem dL_view_160 : decode cL_view 160 = .ok (.i2l, 1) := by decide +kernel
theorem dL_view_161 : decode cL_view 161 = .ok (.ladd, 1) := by decide +kernel
theorem dL_view_162 : decode cL_view 162 = .ok (.lstore_n 1, 1) := by decide +kernel
theorem dL_view_163 : decode cL_view 163 = .ok (.iinc 4 1, 3) := by decide +kernel
theorem dL_view_166 : decode cL_view 166 = .ok (.goto (-25), 3) := by decide +kernel
theorem dL_view_169 : decode cL_view 169 = .ok (.iinc 3 1, 3) := by decide +kernel
theorem dL_view_172 : decode cL_view 172 = .ok (.goto (-43), 3) := by decide +kernel
theorem dL_view_175 : decode cL_view 175 = .ok (.iconst 0, 1) := by decide +kernel
theorem dL_view_176 : decode cL_view 176 = .ok (.istore_n 3, 1) := by decide +kernel
theorem dL_view_177 : decode cL_view 177 = .ok (.iload_n 3, 1) := by decide +kernel
theorem dL_view_178 : decode cL_view 178 = .ok (.aload_n 0, 1) := by decide +kernel
theorem dL_view_179 : decode cL_view 179 = .ok (.bipush 11, 2) := by decide +kernel
theorem dL_view_181 : decode cL_view 181 = .ok (.invokevirtual 13, 3) := by decide +kernel
theorem dL_view_184 : decode cL_view 184 = .ok (.if_icmp .ge 40, 3) := by decide +kernel
theorem dL_view_187 : decode cL_view 187 = .ok (.iconst 0, 1) := by decide +kernel
theorem dL_view_188 : decode cL_view 188 = .ok (.istore 4, 2) := by decide +kernel
theorem dL_view_190 : decode cL_view 190 = .ok (.iload 4, 2) := by decide +kernel
theorem dL_view_192 : decode cL_view 192 = .ok (.bipush 6, 2) := by decide +kernel
theorem dL_view_194 : decode cL_view 194 = .ok (.if_icmp .ge 24, 3) := by decide +kernel
theorem dL_view_197 : decode cL_view 197 = .ok (.ldc2_w 11, 3) := by decide +kernel
theorem dL_view_200 : decode cL_view 200 = .ok (.lload_n 1, 1) := by decide +kernel
theorem dL_view_201 : decode cL_view 201 = .ok (.lmul, 1) := by decide +kernel
theorem dL_view_202 : decode cL_view 202 = .ok (.aload_n 0, 1) := by decide +kernel
theorem dL_view_203 : decode cL_view 203 = .ok (.iload_n 3, 1) := by decide +kernel
theorem dL_view_204 : decode cL_view 204 = .ok (.iload 4, 2) := by decide +kernel
theorem dL_view_206 : decode cL_view 206 = .ok (.invokevirtual 30, 3) := by decide +kernel
theorem dL_view_209 : decode cL_view 209 = .ok (.i2l, 1) := by decide +kernel
theorem dL_view_210 : decode cL_view 210 = .ok (.ladd, 1) := by decide +kernel
theorem dL_view_211 : decode cL_view 211 = .ok (.lstore_n 1, 1) := by decide +kernel
theorem dL_view_212 : decode cL_view 212 = .ok (.iinc 4 1, 3) := by decide +kernel
theorem dL_view_215 : decode cL_view 215 = .ok (.goto (-25), 3) := by decide +kernel
theorem dL_view_218 : decode cL_view 218 = .ok (.iinc 3 1, 3) := by decide +kernel
theorem dL_view_221 : decode cL_view 221 = .ok (.goto (-44), 3) := by decide +kernel
theorem dL_view_224 : decode cL_view 224 = .ok (.lload_n 1, 1) := by decide +kernel
theorem dL_view_225 : decode cL_view 225 = .ok (.lreturn, 1) := by decide +kernel
theorem dL_any_0 : decode cL_any 0 = .ok (.iload_n 2, 1) := by decide +kernel
theorem dL_any_1 : decode cL_any 1 = .ok (.bipush 7, 2) := by decide +kernel
theorem dL_any_3 : decode cL_any 3 = .ok (.iand, 1) := by decide +kernel
theorem dL_any_4 : decode cL_any 4 = .ok (.tableswitch 90 0 6 #[44, 50, 57, 64, 70, 76, 82], 44) := by decide +kernel
theorem dL_any_48 : decode cL_any 48 = .ok (.aload_n 0, 1) := by decide +kernel
theorem dL_any_49 : decode cL_any 49 = .ok (.iload_n 1, 1) := by decide +kernel
theorem dL_any_50 : decode cL_any 50 = .ok (.invokevirtual 33, 3) := by decide +kernel
theorem dL_any_53 : decode cL_any 53 = .ok (.ireturn, 1) := by decide +kernel
theorem dL_any_54 : decode cL_any 54 = .ok (.aload_n 0, 1) := by decide +kernel
theorem dL_any_55 : decode cL_any 55 = .ok (.iload_n 1, 1) := by decide +kernel
theorem dL_any_56 : decode cL_any 56 = .ok (.iload_n 2, 1) := by decide +kernel
theorem dL_any_57 : decode cL_any 57 = .ok (.invokevirtual 36, 3) := by decide +kernel
theorem dL_any_60 : decode cL_any 60 = .ok (.ireturn, 1) := by decide +kernel
theorem dL_any_61 : decode cL_any 61 = .ok (.aload_n 0, 1) := by decide +kernel
theorem dL_any_62 : decode cL_any 62 = .ok (.iload_n 1, 1) := by decide +kernel
theorem dL_any_63 : decode cL_any 63 = .ok (.iload_n 2, 1) := by decide +kernel
theorem dL_any_64 : decode cL_any 64 = .ok (.invokevirtual 39, 3) := by decide +kernel
theorem dL_any_67 : decode cL_any 67 = .ok (.ireturn, 1) := by decide +kernel
theorem dL_any_68 : decode cL_any 68 = .ok (.aload_n 0, 1) := by decide +kernel
theorem dL_any_69 : decode cL_any 69 = .ok (.iload_n 1, 1) := by decide +kernel
theorem dL_any_70 : decode cL_any 70 = .ok (.invokevirtual 42, 3) := by decide +kernel
theorem dL_any_73 : decode cL_any 73 = .ok (.ireturn, 1) := by decide +kernel
theorem dL_any_74 : decode cL_any 74 = .ok (.aload_n 0, 1) := by decide +kernel
theorem dL_any_75 : decode cL_any 75 = .ok (.iload_n 1, 1) := by decide +kernel
theorem dL_any_76 : decode cL_any 76 = .ok (.invokevirtual 45, 3) := by decide +kernel
theorem dL_any_79 : decode cL_any 79 = .ok (.ireturn, 1) := by decide +kernel
theorem dL_any_80 : decode cL_any 80 = .ok (.aload_n 0, 1) := by decide +kernel
theorem dL_any_81 : decode cL_any 81 = .ok (.iload_n 1, 1) := by decide +kernel
theorem dL_any_82 : decode cL_any 82 = .ok (.invokevirtual 48, 3) := by decide +kernel
theorem dL_any_85 : decode cL_any 85 = .ok (.ireturn, 1) := by decide +kernel
theorem dL_any_86 : decode cL_any 86 = .ok (.aload_n 0, 1) := by decide +kernel
theorem dL_any_87 : decode cL_any 87 = .ok (.iload_n 1, 1) := by decide +kernel
theorem dL_any_88 : decode cL_any 88 = .ok (.iload_n 2, 1) := by decide +kernel
theorem dL_any_89 : decode cL_any 89 = .ok (.iload_n 1, 1) := by decide +kernel
theorem dL_any_90 : decode cL_any 90 = .ok (.invokevirtual 51, 3) := by decide +kernel
theorem dL_any_93 : decode cL_any 93 = .ok (.ireturn, 1) := by decide +kernel
theorem dL_any_94 : decode cL_any 94 = .ok (.aload_n 0, 1) := by decide +kernel
theorem dL_any_95 : decode cL_any 95 = .ok (.iload_n 1, 1) := by decide +kernel
theorem dL_any_96 : decode cL_any 96 = .ok (.invokevirtual 54, 3) := by decide +kernel
theorem dL_any_99 : decode cL_any 99 = .ok (.ireturn, 1) := by decide +kernel
theorem dL_turn_0 : decode cL_turn 0 = .ok (.iload_n 2, 1) := by decide +kernel
theorem dL_turn_1 : decode cL_turn 1 = .ok (.aload_n 0, 1) := by decide +kernel
theorem dL_turn_2 : decode cL_turn 2 = .ok (.iconst 2, 1) := by decide +kernel
theorem dL_turn_3 : decode cL_turn 3 = .ok (.invokevirtual 13, 3) := by decide +kernel
theorem dL_turn_6 : decode cL_turn 6 = .ok (.iconst 1, 1) := by decide +kernel
theorem dL_turn_7 : decode cL_turn 7 = .ok (.iadd, 1) := by decide +kernel
theorem dL_turn_8 : decode cL_turn 8 = .ok (.invokestatic 57, 3) := by decide +kernel
theorem dL_turn_11 : decode cL_turn 11 = .ok (.istore 4, 2) := by decide +kernel
theorem dL_turn_13 : decode cL_turn 13 = .ok (.iload_n 1, 1) := by decide +kernel
theorem dL_turn_14 : decode cL_turn 14 = .ok (.tableswitch 223 0 14 #[74, 74, 97, 113, 127, 134, 169, 181, 181, 194, 194, 194, 216, 216, 216], 74) := by decide +kernel
theorem dL_turn_88 : decode cL_turn 88 = .ok (.aload_n 0, 1) := by decide +kernel
theorem dL_turn_89 : decode cL_turn 89 = .ok (.iload_n 3, 1) := by decide +kernel
theorem dL_turn_90 : decode cL_turn 90 = .ok (.iload_n 2, 1) := by decide +kernel
theorem dL_turn_91 : decode cL_turn 91 = .ok (.iconst 3, 1) := by decide +kernel
theorem dL_turn_92 : decode cL_turn 92 = .ok (.iand, 1) := by decide +kernel
theorem dL_turn_93 : decode cL_turn 93 = .ok (.ifCond .ne 9, 3) := by decide +kernel
theorem dL_turn_96 : decode cL_turn 96 = .ok (.sipush 10000, 3) := by decide +kernel
theorem dL_turn_99 : decode cL_turn 99 = .ok (.goto 5, 3) := by decide +kernel
theorem dL_turn_102 : decode cL_turn 102 = .ok (.bipush 60, 2) := by decide +kernel
theorem dL_turn_104 : decode cL_turn 104 = .ok (.invokestatic 57, 3) := by decide +kernel
theorem dL_turn_107 : decode cL_turn 107 = .ok (.invokevirtual 33, 3) := by decide +kernel
theorem dL_turn_110 : decode cL_turn 110 = .ok (.ireturn, 1) := by decide +kernel
theorem dL_turn_111 : decode cL_turn 111 = .ok (.aload_n 0, 1) := by decide +kernel
theorem dL_turn_112 : decode cL_turn 112 = .ok (.iload 4, 2) := by decide +kernel
theorem dL_turn_114 : decode cL_turn 114 = .ok (.iconst 1, 1) := by decide +kernel
theorem dL_turn_115 : decode cL_turn 115 = .ok (.iload_n 3, 1) := by decide +kernel
theorem dL_turn_116 : decode cL_turn 116 = .ok (.sipush 200, 3) := by decide +kernel
theorem dL_turn_119 : decode cL_turn 119 = .ok (.invokestatic 57, 3) := by decide +kernel
theorem dL_turn_122 : decode cL_turn 122 = .ok (.iadd, 1) := by decide +kernel
theorem dL_turn_123 : decode cL_turn 123 = .ok (.invokevirtual 36, 3) := by decide +kernel
theorem dL_turn_126 : decode cL_turn 126 = .ok (.ireturn, 1) := by decide +kernel
theorem dL_turn_127 : decode cL_turn 127 = .ok (.aload_n 0, 1) := by decide +kernel
theorem dL_turn_128 : decode cL_turn 128 = .ok (.iload 4, 2) := by decide +kernel
theorem dL_turn_130 : decode cL_turn 130 = .ok (.iconst 1, 1) := by decide +kernel
theorem dL_turn_131 : decode cL_turn 131 = .ok (.iload_n 3, 1) := by decide +kernel
theorem dL_turn_132 : decode cL_turn 132 = .ok (.iconst 5, 1) := by decide +kernel
theorem dL_turn_133 : decode cL_turn 133 = .ok (.invokestatic 57, 3) := by decide +kernel
theorem dL_turn_136 : decode cL_turn 136 = .ok (.iadd, 1) := by decide +kernel
theorem dL_turn_137 : decode cL_turn 137 = .ok (.invokevirtual 39, 3) := by decide +kernel
theorem dL_turn_140 : decode cL_turn 140 = .ok (.ireturn, 1) := by decide +kernel
theorem dL_turn_141 : decode cL_turn 141 = .ok (.aload_n 0, 1) := by decide +kernel
theorem dL_turn_142 : decode cL_turn 142 = .ok (.iload 4, 2) := by decide +kernel
theorem dL_turn_144 : decode cL_turn 144 = .ok (.invokevirtual 42, 3) := by decide +kernel
theorem dL_turn_147 : decode cL_turn 147 = .ok (.ireturn, 1) := by decide +kernel
theorem dL_turn_148 : decode cL_turn 148 = .ok (.iload_n 2, 1) := by decide +kernel
theorem dL_turn_149 : decode cL_turn 149 = .ok (.iconst 1, 1) := by decide +kernel
theorem dL_turn_150 : decode cL_turn 150 = .ok (.iand, 1) := by decide +kernel
theorem dL_turn_151 : decode cL_turn 151 = .ok (.ifCond .ne 16, 3) := by decide +kernel
theorem dL_turn_154 : decode cL_turn 154 = .ok (.aload_n 0, 1) := by decide +kernel
theorem dL_turn_155 : decode cL_turn 155 = .ok (.iload_n 3, 1) := by decide +kernel
theorem dL_turn_156 : decode cL_turn 156 = .ok (.bipush 100, 2) := by decide +kernel
theorem dL_turn_158 : decode cL_turn 158 = .ok (.invokestatic 57, 3) := by decide +kernel
theorem dL_turn_161 : decode cL_turn 161 = .ok (.invokevirtual 45, 3) := by decide +kernel
theorem dL_turn_164 : decode cL_turn 164 = .ok (.goto 18, 3) := by decide +kernel
theorem dL_turn_167 : decode cL_turn 167 = .ok (.aload_n 0, 1) := by decide +kernel
theorem dL_turn_168 : decode cL_turn 168 = .ok (.iload_n 3, 1) := by decide +kernel
theorem dL_turn_169 : decode cL_turn 169 = .ok (.iconst 1, 1) := by decide +kernel
theorem dL_turn_170 : decode cL_turn 170 = .ok (.iand, 1) := by decide +kernel
theorem dL_turn_171 : decode cL_turn 171 = .ok (.ifCond .ne 7, 3) := by decide +kernel
theorem dL_turn_174 : decode cL_turn 174 = .ok (.iconst 1, 1) := by decide +kernel
theorem dL_turn_175 : decode cL_turn 175 = .ok (.goto 4, 3) := by decide +kernel
theorem dL_turn_178 : decode cL_turn 178 = .ok (.iconst 0, 1) := by decide +kernel
theorem dL_turn_179 : decode cL_turn 179 = .ok (.invokevirtual 62, 3) := by decide +kernel
theorem dL_turn_182 : decode cL_turn 182 = .ok (.ireturn, 1) := by decide +kernel
theorem dL_turn_183 : decode cL_turn 183 = .ok (.aload_n 0, 1) := by decide +kernel
theorem dL_turn_184 : decode cL_turn 184 = .ok (.iconst 1, 1) := by decide +kernel
theorem dL_turn_185 : decode cL_turn 185 = .ok (.iload_n 2, 1) := by decide +kernel
theorem dL_turn_186 : decode cL_turn 186 = .ok (.iconst 3, 1) := by decide +kernel
theorem dL_turn_187 : decode cL_turn 187 = .ok (.invokestatic 57, 3) := by decide +kernel
theorem dL_turn_190 : decode cL_turn 190 = .ok (.iadd, 1) := by decide +kernel
theorem dL_turn_191 : decode cL_turn 191 = .ok (.invokevirtual 48, 3) := by decide +kernel
theorem dL_turn_194 : decode cL_turn 194 = .ok (.ireturn, 1) := by decide +kernel
theorem dL_turn_195 : decode cL_turn 195 = .ok (.aload_n 0, 1) := by decide +kernel
theorem dL_turn_196 : decode cL_turn 196 = .ok (.iload 4, 2) := by decide +kernel
theorem dL_turn_198 : decode cL_turn 198 = .ok (.iload_n 3, 1) := by decide +kernel
theorem dL_turn_199 : decode cL_turn 199 = .ok (.bipush 12, 2) := by decide +kernel
theorem dL_turn_201 : decode cL_turn 201 = .ok (.invokestatic 57, 3) := by decide +kernel
theorem dL_turn_204 : decode cL_turn 204 = .ok (.invokevirtual 66, 3) := by decide +kernel
theorem dL_turn_207 : decode cL_turn 207 = .ok (.ireturn, 1) := by decide +kernel
theorem dL_turn_208 : decode cL_turn 208 = .ok (.aload_n 0, 1) := by decide +kernel
theorem dL_turn_209 : decode cL_turn 209 = .ok (.iload 4, 2) := by decide +kernel
theorem dL_turn_211 : decode cL_turn 211 = .ok (.iload_n 3, 1) := by decide +kernel
theorem dL_turn_212 : decode cL_turn 212 = .ok (.bipush 6, 2) := by decide +kernel
theorem dL_turn_214 : decode cL_turn 214 = .ok (.invokestatic 57, 3) := by decide +kernel
theorem dL_turn_217 : decode cL_turn 217 = .ok (.iload_n 3, 1) := by decide +kernel
theorem dL_turn_218 : decode cL_turn 218 = .ok (.iconst 4, 1) := by decide +kernel
theorem dL_turn_219 : decode cL_turn 219 = .ok (.ishr, 1) := by decide +kernel
theorem dL_turn_220 : decode cL_turn 220 = .ok (.sipush 10000, 3) := by decide +kernel
theorem dL_turn_223 : decode cL_turn 223 = .ok (.invokestatic 57, 3) := by decide +kernel
theorem dL_turn_226 : decode cL_turn 226 = .ok (.invokevirtual 51, 3) := by decide +kernel
theorem dL_turn_229 : decode cL_turn 229 = .ok (.ireturn, 1) := by decide +kernel
theorem dL_turn_230 : decode cL_turn 230 = .ok (.aload_n 0, 1) := by decide +kernel
theorem dL_turn_231 : decode cL_turn 231 = .ok (.iload 4, 2) := by decide +kernel
theorem dL_turn_233 : decode cL_turn 233 = .ok (.invokevirtual 54, 3) := by decide +kernel
theorem dL_turn_236 : decode cL_turn 236 = .ok (.ireturn, 1) := by decide +kernel
theorem dL_turn_237 : decode cL_turn 237 = .ok (.aload_n 0, 1) := by decide +kernel
theorem dL_turn_238 : decode cL_turn 238 = .ok (.iload_n 2, 1) := by decide +kernel
theorem dL_turn_239 : decode cL_turn 239 = .ok (.iload_n 3, 1) := by decide +kernel
theorem dL_turn_240 : decode cL_turn 240 = .ok (.invokestatic 69, 3) := by decide +kernel
theorem dL_turn_243 : decode cL_turn 243 = .ok (.ireturn, 1) := by decide +kernel
theorem dL_seen_0 : decode cL_seen 0 = .ok (.aload_n 0, 1) := by decide +kernel
theorem dL_seen_1 : decode cL_seen 1 = .ok (.iload_n 1, 1) := by decide +kernel
theorem dL_seen_2 : decode cL_seen 2 = .ok (.iconst 0, 1) := by decide +kernel
theorem dL_seen_3 : decode cL_seen 3 = .ok (.invokevirtual 27, 3) := by decide +kernel
theorem dL_seen_6 : decode cL_seen 6 = .ok (.ifCond .ne 13, 3) := by decide +kernel
theorem dL_seen_9 : decode cL_seen 9 = .ok (.aload_n 0, 1) := by decide +kernel
theorem dL_seen_10 : decode cL_seen 10 = .ok (.iload_n 1, 1) := by decide +kernel
theorem dL_seen_11 : decode cL_seen 11 = .ok (.bipush 9, 2) := by decide +kernel
theorem dL_seen_13 : decode cL_seen 13 = .ok (.invokevirtual 27, 3) := by decide +kernel
theorem dL_seen_16 : decode cL_seen 16 = .ok (.goto 4, 3) := by decide +kernel
theorem dL_seen_19 : decode cL_seen 19 = .ok (.iconst (-1), 1) := by decide +kernel
theorem dL_seen_20 : decode cL_seen 20 = .ok (.ireturn, 1) := by decide +kernel
theorem dL_areVersions_0 : decode cL_areVersions 0 = .ok (.iconst 0, 1) := by decide +kernel
theorem dL_areVersions_1 : decode cL_areVersions 1 = .ok (.istore_n 1, 1) := by decide +kernel
theorem dL_areVersions_2 : decode cL_areVersions 2 = .ok (.iconst 1, 1) := by decide +kernel
theorem dL_areVersions_3 : decode cL_areVersions 3 = .ok (.istore_n 2, 1) := by decide +kernel
theorem dL_areVersions_4 : decode cL_areVersions 4 = .ok (.iconst 0, 1) := by decide +kernel
theorem dL_areVersions_5 : decode cL_areVersions 5 = .ok (.istore_n 3, 1) := by decide +kernel
theorem dL_areVersions_6 : decode cL_areVersions 6 = .ok (.iload_n 3, 1) := by decide +kernel
theorem dL_areVersions_7 : decode cL_areVersions 7 = .ok (.bipush 12, 2) := by decide +kernel
theorem dL_areVersions_9 : decode cL_areVersions 9 = .ok (.if_icmp .ge 158, 3) := by decide +kernel
theorem dL_areVersions_12 : decode cL_areVersions 12 = .ok (.iload_n 2, 1) := by decide +kernel
theorem dL_areVersions_13 : decode cL_areVersions 13 = .ok (.ifCond .eq 154, 3) := by decide +kernel
theorem dL_areVersions_16 : decode cL_areVersions 16 = .ok (.aload_n 0, 1) := by decide +kernel
theorem dL_areVersions_17 : decode cL_areVersions 17 = .ok (.iload_n 3, 1) := by decide +kernel
theorem dL_areVersions_18 : decode cL_areVersions 18 = .ok (.iconst 2, 1) := by decide +kernel
theorem dL_areVersions_19 : decode cL_areVersions 19 = .ok (.invokevirtual 19, 3) := by decide +kernel
theorem dL_areVersions_22 : decode cL_areVersions 22 = .ok (.istore 4, 2) := by decide +kernel
theorem dL_areVersions_24 : decode cL_areVersions 24 = .ok (.iload 4, 2) := by decide +kernel
theorem dL_areVersions_26 : decode cL_areVersions 26 = .ok (.iconst 1, 1) := by decide +kernel
theorem dL_areVersions_27 : decode cL_areVersions 27 = .ok (.if_icmp .lt 52, 3) := by decide +kernel
theorem dL_areVersions_30 : decode cL_areVersions 30 = .ok (.aload_n 0, 1) := by decide +kernel
theorem dL_areVersions_31 : decode cL_areVersions 31 = .ok (.iload_n 3, 1) := by decide +kernel
theorem dL_areVersions_32 : decode cL_areVersions 32 = .ok (.iconst 0, 1) := by decide +kernel
theorem dL_areVersions_33 : decode cL_areVersions 33 = .ok (.iconst 0, 1) := by decide +kernel
theorem dL_areVersions_34 : decode cL_areVersions 34 = .ok (.invokevirtual 23, 3) := by decide +kernel
theorem dL_areVersions_37 : decode cL_areVersions 37 = .ok (.aload_n 0, 1) := by decide +kernel
theorem dL_areVersions_38 : decode cL_areVersions 38 = .ok (.iload_n 3, 1) := by decide +kernel
theorem dL_areVersions_39 : decode cL_areVersions 39 = .ok (.iconst 0, 1) := by decide +kernel
theorem dL_areVersions_40 : decode cL_areVersions 40 = .ok (.invokevirtual 19, 3) := by decide +kernel
theorem dL_areVersions_43 : decode cL_areVersions 43 = .ok (.if_icmp .ne 36, 3) := by decide +kernel
theorem dL_areVersions_46 : decode cL_areVersions 46 = .ok (.aload_n 0, 1) := by decide +kernel
theorem dL_areVersions_47 : decode cL_areVersions 47 = .ok (.iload_n 3, 1) := by decide +kernel
theorem dL_areVersions_48 : decode cL_areVersions 48 = .ok (.iconst 0, 1) := by decide +kernel
theorem dL_areVersions_49 : decode cL_areVersions 49 = .ok (.iconst 1, 1) := by decide +kernel
theorem dL_areVersions_50 : decode cL_areVersions 50 = .ok (.invokevirtual 23, 3) := by decide +kernel
theorem dL_areVersions_53 : decode cL_areVersions 53 = .ok (.aload_n 0, 1) := by decide +kernel
theorem dL_areVersions_54 : decode cL_areVersions 54 = .ok (.iload_n 3, 1) := by decide +kernel
theorem dL_areVersions_55 : decode cL_areVersions 55 = .ok (.iconst 1, 1) := by decide +kernel
theorem dL_areVersions_56 : decode cL_areVersions 56 = .ok (.invokevirtual 19, 3) := by decide +kernel
theorem dL_areVersions_59 : decode cL_areVersions 59 = .ok (.if_icmp .ne 20, 3) := by decide +kernel
theorem dL_areVersions_62 : decode cL_areVersions 62 = .ok (.aload_n 0, 1) := by decide +kernel
theorem dL_areVersions_63 : decode cL_areVersions 63 = .ok (.iload_n 3, 1) := by decide +kernel
theorem dL_areVersions_64 : decode cL_areVersions 64 = .ok (.iload 4, 2) := by decide +kernel
theorem dL_areVersions_66 : decode cL_areVersions 66 = .ok (.iconst 0, 1) := by decide +kernel
theorem dL_areVersions_67 : decode cL_areVersions 67 = .ok (.invokevirtual 23, 3) := by decide +kernel
theorem dL_areVersions_70 : decode cL_areVersions 70 = .ok (.bipush (-5), 2) := by decide +kernel
theorem dL_areVersions_72 : decode cL_areVersions 72 = .ok (.if_icmp .ne 7, 3) := by decide +kernel
theorem dL_areVersions_75 : decode cL_areVersions 75 = .ok (.iconst 1, 1) := by decide +kernel
theorem dL_areVersions_76 : decode cL_areVersions 76 = .ok (.goto 4, 3) := by decide +kernel
theorem dL_areVersions_79 : decode cL_areVersions 79 = .ok (.iconst 0, 1) := by decide +kernel
theorem dL_areVersions_80 : decode cL_areVersions 80 = .ok (.istore_n 2, 1) := by decide +kernel
theorem dL_areVersions_81 : decode cL_areVersions 81 = .ok (.iconst 1, 1) := by decide +kernel
theorem dL_areVersions_82 : decode cL_areVersions 82 = .ok (.istore 5, 2) := by decide +kernel
theorem dL_areVersions_84 : decode cL_areVersions 84 = .ok (.iload 5, 2) := by decide +kernel
theorem dL_areVersions_86 : decode cL_areVersions 86 = .ok (.iload 4, 2) := by decide +kernel
theorem dL_areVersions_88 : decode cL_areVersions 88 = .ok (.if_icmp .ge 73, 3) := by decide +kernel
theorem dL_areVersions_91 : decode cL_areVersions 91 = .ok (.iload_n 2, 1) := by decide +kernel
theorem dL_areVersions_92 : decode cL_areVersions 92 = .ok (.ifCond .eq 69, 3) := by decide +kernel
theorem dL_areVersions_95 : decode cL_areVersions 95 = .ok (.aload_n 0, 1) := by decide +kernel
theorem dL_areVersions_96 : decode cL_areVersions 96 = .ok (.iload_n 3, 1) := by decide +kernel
theorem dL_areVersions_97 : decode cL_areVersions 97 = .ok (.iload 5, 2) := by decide +kernel
theorem dL_areVersions_99 : decode cL_areVersions 99 = .ok (.iconst 1, 1) := by decide +kernel
theorem dL_areVersions_100 : decode cL_areVersions 100 = .ok (.invokevirtual 23, 3) := by decide +kernel
theorem dL_areVersions_103 : decode cL_areVersions 103 = .ok (.aload_n 0, 1) := by decide +kernel
theorem dL_areVersions_104 : decode cL_areVersions 104 = .ok (.iload_n 3, 1) := by decide +kernel
theorem dL_areVersions_105 : decode cL_areVersions 105 = .ok (.iload 5, 2) := by decide +kernel
theorem dL_areVersions_107 : decode cL_areVersions 107 = .ok (.iconst 1, 1) := by decide +kernel
theorem dL_areVersions_108 : decode cL_areVersions 108 = .ok (.isub, 1) := by decide +kernel
theorem dL_areVersions_109 : decode cL_areVersions 109 = .ok (.iconst 1, 1) := by decide +kernel
theorem dL_areVersions_110 : decode cL_areVersions 110 = .ok (.invokevirtual 23, 3) := by decide +kernel
theorem dL_areVersions_113 : decode cL_areVersions 113 = .ok (.if_icmp .ge 37, 3) := by decide +kernel
theorem dL_areVersions_116 : decode cL_areVersions 116 = .ok (.aload_n 0, 1) := by decide +kernel
theorem dL_areVersions_117 : decode cL_areVersions 117 = .ok (.iload_n 3, 1) := by decide +kernel
theorem dL_areVersions_118 : decode cL_areVersions 118 = .ok (.iload 5, 2) := by decide +kernel
theorem dL_areVersions_120 : decode cL_areVersions 120 = .ok (.iconst 2, 1) := by decide +kernel
theorem dL_areVersions_121 : decode cL_areVersions 121 = .ok (.invokevirtual 23, 3) := by decide +kernel
theorem dL_areVersions_124 : decode cL_areVersions 124 = .ok (.ifCond .le 26, 3) := by decide +kernel
theorem dL_areVersions_127 : decode cL_areVersions 127 = .ok (.aload_n 0, 1) := by decide +kernel
theorem dL_areVersions_128 : decode cL_areVersions 128 = .ok (.iload_n 3, 1) := by decide +kernel
theorem dL_areVersions_129 : decode cL_areVersions 129 = .ok (.iload 5, 2) := by decide +kernel
theorem dL_areVersions_131 : decode cL_areVersions 131 = .ok (.iconst 3, 1) := by decide +kernel
theorem dL_areVersions_132 : decode cL_areVersions 132 = .ok (.invokevirtual 23, 3) := by decide +kernel
theorem dL_areVersions_135 : decode cL_areVersions 135 = .ok (.aload_n 0, 1) := by decide +kernel
theorem dL_areVersions_136 : decode cL_areVersions 136 = .ok (.iload_n 3, 1) := by decide +kernel
theorem dL_areVersions_137 : decode cL_areVersions 137 = .ok (.iload 5, 2) := by decide +kernel
theorem dL_areVersions_139 : decode cL_areVersions 139 = .ok (.iconst 2, 1) := by decide +kernel
theorem dL_areVersions_140 : decode cL_areVersions 140 = .ok (.invokevirtual 23, 3) := by decide +kernel
theorem dL_areVersions_143 : decode cL_areVersions 143 = .ok (.if_icmp .gt 7, 3) := by decide +kernel
theorem dL_areVersions_146 : decode cL_areVersions 146 = .ok (.iconst 1, 1) := by decide +kernel
theorem dL_areVersions_147 : decode cL_areVersions 147 = .ok (.goto 4, 3) := by decide +kernel
theorem dL_areVersions_150 : decode cL_areVersions 150 = .ok (.iconst 0, 1) := by decide +kernel
theorem dL_areVersions_151 : decode cL_areVersions 151 = .ok (.istore_n 2, 1) := by decide +kernel
theorem dL_areVersions_152 : decode cL_areVersions 152 = .ok (.iinc 1 1, 3) := by decide +kernel
theorem dL_areVersions_155 : decode cL_areVersions 155 = .ok (.iinc 5 1, 3) := by decide +kernel
theorem dL_areVersions_158 : decode cL_areVersions 158 = .ok (.goto (-74), 3) := by decide +kernel
theorem dL_areVersions_161 : decode cL_areVersions 161 = .ok (.iinc 3 1, 3) := by decide +kernel
theorem dL_areVersions_164 : decode cL_areVersions 164 = .ok (.goto (-158), 3) := by decide +kernel
theorem dL_areVersions_167 : decode cL_areVersions 167 = .ok (.iload_n 2, 1) := by decide +kernel
theorem dL_areVersions_168 : decode cL_areVersions 168 = .ok (.ifCond .eq 23, 3) := by decide +kernel
theorem dL_areVersions_171 : decode cL_areVersions 171 = .ok (.iload_n 1, 1) := by decide +kernel
theorem dL_areVersions_172 : decode cL_areVersions 172 = .ok (.aload_n 0, 1) := by decide +kernel
theorem dL_areVersions_173 : decode cL_areVersions 173 = .ok (.bipush 7, 2) := by decide +kernel
theorem dL_areVersions_175 : decode cL_areVersions 175 = .ok (.invokevirtual 13, 3) := by decide +kernel
theorem dL_areVersions_178 : decode cL_areVersions 178 = .ok (.if_icmp .ne 13, 3) := by decide +kernel
theorem dL_areVersions_181 : decode cL_areVersions 181 = .ok (.iload_n 1, 1) := by decide +kernel
theorem dL_areVersions_182 : decode cL_areVersions 182 = .ok (.bipush 40, 2) := by decide +kernel
theorem dL_areVersions_184 : decode cL_areVersions 184 = .ok (.if_icmp .gt 7, 3) := by decide +kernel
theorem dL_areVersions_187 : decode cL_areVersions 187 = .ok (.iconst 1, 1) := by decide +kernel
theorem dL_areVersions_188 : decode cL_areVersions 188 = .ok (.goto 4, 3) := by decide +kernel
theorem dL_areVersions_191 : decode cL_areVersions 191 = .ok (.iconst 0, 1) := by decide +kernel
theorem dL_areVersions_192 : decode cL_areVersions 192 = .ok (.ireturn, 1) := by decide +kernel
theorem dL_coins_0 : decode cL_coins 0 = .ok (.lload_n 1, 1) := by decide +kernel
theorem dL_coins_1 : decode cL_coins 1 = .ok (.aload_n 0, 1) := by decide +kernel
theorem dL_coins_2 : decode cL_coins 2 = .ok (.bipush 10, 2) := by decide +kernel
theorem dL_coins_4 : decode cL_coins 4 = .ok (.invokevirtual 13, 3) := by decide +kernel
theorem dL_coins_7 : decode cL_coins 7 = .ok (.i2l, 1) := by decide +kernel
theorem dL_coins_8 : decode cL_coins 8 = .ok (.lsub, 1) := by decide +kernel
theorem dL_coins_9 : decode cL_coins 9 = .ok (.lstore_n 3, 1) := by decide +kernel
theorem dL_coins_10 : decode cL_coins 10 = .ok (.iconst 0, 1) := by decide +kernel
theorem dL_coins_11 : decode cL_coins 11 = .ok (.istore 5, 2) := by decide +kernel
theorem dL_coins_13 : decode cL_coins 13 = .ok (.iload 5, 2) := by decide +kernel
theorem dL_coins_15 : decode cL_coins 15 = .ok (.aload_n 0, 1) := by decide +kernel
theorem dL_coins_16 : decode cL_coins 16 = .ok (.iconst 2, 1) := by decide +kernel
theorem dL_coins_17 : decode cL_coins 17 = .ok (.invokevirtual 13, 3) := by decide +kernel
theorem dL_coins_20 : decode cL_coins 20 = .ok (.if_icmp .ge 20, 3) := by decide +kernel
theorem dL_coins_23 : decode cL_coins 23 = .ok (.lload_n 3, 1) := by decide +kernel
theorem dL_coins_24 : decode cL_coins 24 = .ok (.aload_n 0, 1) := by decide +kernel
theorem dL_coins_25 : decode cL_coins 25 = .ok (.iload 5, 2) := by decide +kernel
theorem dL_coins_27 : decode cL_coins 27 = .ok (.iconst 2, 1) := by decide +kernel
theorem dL_coins_28 : decode cL_coins 28 = .ok (.invokevirtual 27, 3) := by decide +kernel
theorem dL_coins_31 : decode cL_coins 31 = .ok (.i2l, 1) := by decide +kernel
theorem dL_coins_32 : decode cL_coins 32 = .ok (.lsub, 1) := by decide +kernel
theorem dL_coins_33 : decode cL_coins 33 = .ok (.lstore_n 3, 1) := by decide +kernel
theorem dL_coins_34 : decode cL_coins 34 = .ok (.iinc 5 1, 3) := by decide +kernel
theorem dL_coins_37 : decode cL_coins 37 = .ok (.goto (-24), 3) := by decide +kernel
theorem dL_coins_40 : decode cL_coins 40 = .ok (.lload_n 3, 1) := by decide +kernel
theorem dL_coins_41 : decode cL_coins 41 = .ok (.lreturn, 1) := by decide +kernel
theorem dL_putBy_0 : decode cL_putBy 0 = .ok (.iload_n 0, 1) := by decide +kernel
theorem dL_putBy_1 : decode cL_putBy 1 = .ok (.iconst 2, 1) := by decide +kernel
theorem dL_putBy_2 : decode cL_putBy 2 = .ok (.if_icmp .ge 23, 3) := by decide +kernel
theorem dL_putBy_5 : decode cL_putBy 5 = .ok (.iload_n 2, 1) := by decide +kernel
theorem dL_putBy_6 : decode cL_putBy 6 = .ok (.iload_n 1, 1) := by decide +kernel
theorem dL_putBy_7 : decode cL_putBy 7 = .ok (.iconst 3, 1) := by decide +kernel
theorem dL_putBy_8 : decode cL_putBy 8 = .ok (.iand, 1) := by decide +kernel
theorem dL_putBy_9 : decode cL_putBy 9 = .ok (.ifCond .ne 9, 3) := by decide +kernel
theorem dL_putBy_12 : decode cL_putBy 12 = .ok (.sipush 10000, 3) := by decide +kernel
theorem dL_putBy_15 : decode cL_putBy 15 = .ok (.goto 5, 3) := by decide +kernel
theorem dL_putBy_18 : decode cL_putBy 18 = .ok (.bipush 60, 2) := by decide +kernel
theorem dL_putBy_20 : decode cL_putBy 20 = .ok (.invokestatic 57, 3) := by decide +kernel
theorem dL_putBy_23 : decode cL_putBy 23 = .ok (.i2l, 1) := by decide +kernel
theorem dL_putBy_24 : decode cL_putBy 24 = .ok (.lreturn, 1) := by decide +kernel
theorem dL_putBy_25 : decode cL_putBy 25 = .ok (.iload_n 0, 1) := by decide +kernel
theorem dL_putBy_26 : decode cL_putBy 26 = .ok (.iconst 2, 1) := by decide +kernel
theorem dL_putBy_27 : decode cL_putBy 27 = .ok (.if_icmp .ne 14, 3) := by decide +kernel
theorem dL_putBy_30 : decode cL_putBy 30 = .ok (.lconst 1, 1) := by decide +kernel
theorem dL_putBy_31 : decode cL_putBy 31 = .ok (.iload_n 2, 1) := by decide +kernel
theorem dL_putBy_32 : decode cL_putBy 32 = .ok (.sipush 200, 3) := by decide +kernel
theorem dL_putBy_35 : decode cL_putBy 35 = .ok (.invokestatic 57, 3) := by decide +kernel
theorem dL_putBy_38 : decode cL_putBy 38 = .ok (.i2l, 1) := by decide +kernel
theorem dL_putBy_39 : decode cL_putBy 39 = .ok (.ladd, 1) := by decide +kernel
theorem dL_putBy_40 : decode cL_putBy 40 = .ok (.lreturn, 1) := by decide +kernel
theorem dL_putBy_41 : decode cL_putBy 41 = .ok (.iload_n 0, 1) := by decide +kernel
theorem dL_putBy_42 : decode cL_putBy 42 = .ok (.bipush 15, 2) := by decide +kernel
theorem dL_putBy_44 : decode cL_putBy 44 = .ok (.if_icmp .ne 11, 3) := by decide +kernel
theorem dL_putBy_47 : decode cL_putBy 47 = .ok (.iload_n 2, 1) := by decide +kernel
theorem dL_putBy_48 : decode cL_putBy 48 = .ok (.bipush 7, 2) := by decide +kernel
theorem dL_putBy_50 : decode cL_putBy 50 = .ok (.iand, 1) := by decide +kernel
theorem dL_putBy_51 : decode cL_putBy 51 = .ok (.iconst 1, 1) := by decide +kernel
theorem dL_putBy_52 : decode cL_putBy 52 = .ok (.if_icmp .le 7, 3) := by decide +kernel
theorem dL_putBy_55 : decode cL_putBy 55 = .ok (.lconst 0, 1) := by decide +kernel
theorem dL_putBy_56 : decode cL_putBy 56 = .ok (.goto 17, 3) := by decide +kernel
theorem dL_putBy_59 : decode cL_putBy 59 = .ok (.iload_n 2, 1) := by decide +kernel
theorem dL_putBy_60 : decode cL_putBy 60 = .ok (.bipush 7, 2) := by decide +kernel
theorem dL_putBy_62 : decode cL_putBy 62 = .ok (.iand, 1) := by decide +kernel
theorem dL_putBy_63 : decode cL_putBy 63 = .ok (.ifCond .ne 8, 3) := by decide +kernel
theorem dL_putBy_66 : decode cL_putBy 66 = .ok (.iload_n 1, 1) := by decide +kernel
theorem dL_putBy_67 : decode cL_putBy 67 = .ok (.i2l, 1) := by decide +kernel
theorem dL_putBy_68 : decode cL_putBy 68 = .ok (.goto 5, 3) := by decide +kernel
theorem dL_putBy_71 : decode cL_putBy 71 = .ok (.iload_n 2, 1) := by decide +kernel
theorem dL_putBy_72 : decode cL_putBy 72 = .ok (.i2l, 1) := by decide +kernel
theorem dL_putBy_73 : decode cL_putBy 73 = .ok (.lreturn, 1) := by decide +kernel
theorem dL_isUndone_0 : decode cL_isUndone 0 = .ok (.aload_n 0, 1) := by decide +kernel
theorem dL_isUndone_1 : decode cL_isUndone 1 = .ok (.invokestatic 73, 3) := by decide +kernel
theorem dL_isUndone_4 : decode cL_isUndone 4 = .ok (.lstore 7, 2) := by decide +kernel
theorem dL_isUndone_6 : decode cL_isUndone 6 = .ok (.aload_n 0, 1) := by decide +kernel
theorem dL_isUndone_7 : decode cL_isUndone 7 = .ok (.bipush 15, 2) := by decide +kernel
theorem dL_isUndone_9 : decode cL_isUndone 9 = .ok (.invokevirtual 13, 3) := by decide +kernel
theorem dL_isUndone_12 : decode cL_isUndone 12 = .ok (.istore 9, 2) := by decide +kernel
theorem dL_isUndone_14 : decode cL_isUndone 14 = .ok (.aload_n 0, 1) := by decide +kernel
theorem dL_isUndone_15 : decode cL_isUndone 15 = .ok (.invokevirtual 77, 3) := by decide +kernel
theorem dL_isUndone_18 : decode cL_isUndone 18 = .ok (.iload 9, 2) := by decide +kernel
theorem dL_isUndone_20 : decode cL_isUndone 20 = .ok (.iconst 1, 1) := by decide +kernel
theorem dL_isUndone_21 : decode cL_isUndone 21 = .ok (.isub, 1) := by decide +kernel
theorem dL_isUndone_22 : decode cL_isUndone 22 = .ok (.if_icmp .ne 50, 3) := by decide +kernel
theorem dL_isUndone_25 : decode cL_isUndone 25 = .ok (.aload_n 0, 1) := by decide +kernel
theorem dL_isUndone_26 : decode cL_isUndone 26 = .ok (.invokestatic 73, 3) := by decide +kernel
theorem dL_isUndone_29 : decode cL_isUndone 29 = .ok (.lload 5, 2) := by decide +kernel
theorem dL_isUndone_31 : decode cL_isUndone 31 = .ok (.lcmp, 1) := by decide +kernel
theorem dL_isUndone_32 : decode cL_isUndone 32 = .ok (.ifCond .ne 40, 3) := by decide +kernel
theorem dL_isUndone_35 : decode cL_isUndone 35 = .ok (.aload_n 0, 1) := by decide +kernel
theorem dL_isUndone_36 : decode cL_isUndone 36 = .ok (.iload_n 1, 1) := by decide +kernel
theorem dL_isUndone_37 : decode cL_isUndone 37 = .ok (.iload_n 2, 1) := by decide +kernel
theorem dL_isUndone_38 : decode cL_isUndone 38 = .ok (.iload_n 3, 1) := by decide +kernel
theorem dL_isUndone_39 : decode cL_isUndone 39 = .ok (.invokestatic 81, 3) := by decide +kernel
theorem dL_isUndone_42 : decode cL_isUndone 42 = .ok (.iload 4, 2) := by decide +kernel
theorem dL_isUndone_44 : decode cL_isUndone 44 = .ok (.if_icmp .ne 28, 3) := by decide +kernel
theorem dL_isUndone_47 : decode cL_isUndone 47 = .ok (.aload_n 0, 1) := by decide +kernel
theorem dL_isUndone_48 : decode cL_isUndone 48 = .ok (.invokestatic 73, 3) := by decide +kernel
theorem dL_isUndone_51 : decode cL_isUndone 51 = .ok (.lload 7, 2) := by decide +kernel
theorem dL_isUndone_53 : decode cL_isUndone 53 = .ok (.lcmp, 1) := by decide +kernel
theorem dL_isUndone_54 : decode cL_isUndone 54 = .ok (.ifCond .ne 18, 3) := by decide +kernel
theorem dL_isUndone_57 : decode cL_isUndone 57 = .ok (.aload_n 0, 1) := by decide +kernel
theorem dL_isUndone_58 : decode cL_isUndone 58 = .ok (.bipush 15, 2) := by decide +kernel
theorem dL_isUndone_60 : decode cL_isUndone 60 = .ok (.invokevirtual 13, 3) := by decide +kernel
theorem dL_isUndone_63 : decode cL_isUndone 63 = .ok (.iload 9, 2) := by decide +kernel
theorem dL_isUndone_65 : decode cL_isUndone 65 = .ok (.if_icmp .ne 7, 3) := by decide +kernel
theorem dL_isUndone_68 : decode cL_isUndone 68 = .ok (.iconst 1, 1) := by decide +kernel
theorem dL_isUndone_69 : decode cL_isUndone 69 = .ok (.goto 4, 3) := by decide +kernel
theorem dL_isUndone_72 : decode cL_isUndone 72 = .ok (.iconst 0, 1) := by decide +kernel
theorem dL_isUndone_73 : decode cL_isUndone 73 = .ok (.ireturn, 1) := by decide +kernel
theorem dL_law_0 : decode cL_law 0 = .ok (.new 14, 3) := by decide +kernel
theorem dL_law_3 : decode cL_law 3 = .ok (.dup, 1) := by decide +kernel
theorem dL_law_4 : decode cL_law 4 = .ok (.invokespecial 85, 3) := by decide +kernel
theorem dL_law_7 : decode cL_law 7 = .ok (.astore_n 1, 1) := by decide +kernel
theorem dL_law_8 : decode cL_law 8 = .ok (.lconst 0, 1) := by decide +kernel
theorem dL_law_9 : decode cL_law 9 = .ok (.lstore_n 2, 1) := by decide +kernel
theorem dL_law_10 : decode cL_law 10 = .ok (.bipush 40, 2) := by decide +kernel
theorem dL_law_12 : decode cL_law 12 = .ok (.newarray .int, 2) := by decide +kernel
theorem dL_law_14 : decode cL_law 14 = .ok (.astore 4, 2) := by decide +kernel
theorem dL_law_16 : decode cL_law 16 = .ok (.aload_n 0, 1) := by decide +kernel
theorem dL_law_17 : decode cL_law 17 = .ok (.arraylength, 1) := by decide +kernel
theorem dL_law_18 : decode cL_law 18 = .ok (.iconst 3, 1) := by decide +kernel
theorem dL_law_19 : decode cL_law 19 = .ok (.idiv, 1) := by decide +kernel
theorem dL_law_20 : decode cL_law 20 = .ok (.bipush 40, 2) := by decide +kernel
theorem dL_law_22 : decode cL_law 22 = .ok (.if_icmp .ge 10, 3) := by decide +kernel
theorem dL_law_25 : decode cL_law 25 = .ok (.aload_n 0, 1) := by decide +kernel
theorem dL_law_26 : decode cL_law 26 = .ok (.arraylength, 1) := by decide +kernel
theorem dL_law_27 : decode cL_law 27 = .ok (.iconst 3, 1) := by decide +kernel
theorem dL_law_28 : decode cL_law 28 = .ok (.idiv, 1) := by decide +kernel
theorem dL_law_29 : decode cL_law 29 = .ok (.goto 5, 3) := by decide +kernel
theorem dL_law_32 : decode cL_law 32 = .ok (.bipush 40, 2) := by decide +kernel
theorem dL_law_34 : decode cL_law 34 = .ok (.istore 5, 2) := by decide +kernel
theorem dL_law_36 : decode cL_law 36 = .ok (.iconst 0, 1) := by decide +kernel
theorem dL_law_37 : decode cL_law 37 = .ok (.istore 6, 2) := by decide +kernel
theorem dL_law_39 : decode cL_law 39 = .ok (.iload 6, 2) := by decide +kernel
theorem dL_law_41 : decode cL_law 41 = .ok (.iload 5, 2) := by decide +kernel
end
section
theorem dL_law_43 : decode cL_law 43 = .ok (.if_icmp .ge 301, 3) := by decide +kernel
theorem dL_law_46 : decode cL_law 46 = .ok (.aload_n 0, 1) := by decide +kernel
theorem dL_law_47 : decode cL_law 47 = .ok (.iconst 3, 1) := by decide +kernel
theorem dL_law_48 : decode cL_law 48 = .ok (.iload 6, 2) := by decide +kernel
theorem dL_law_50 : decode cL_law 50 = .ok (.imul, 1) := by decide +kernel
theorem dL_law_51 : decode cL_law 51 = .ok (.invokestatic 86, 3) := by decide +kernel
theorem dL_law_54 : decode cL_law 54 = .ok (.istore 7, 2) := by decide +kernel
theorem dL_law_56 : decode cL_law 56 = .ok (.aload_n 0, 1) := by decide +kernel
theorem dL_law_57 : decode cL_law 57 = .ok (.iconst 3, 1) := by decide +kernel
theorem dL_law_58 : decode cL_law 58 = .ok (.iload 6, 2) := by decide +kernel
theorem dL_law_60 : decode cL_law 60 = .ok (.imul, 1) := by decide +kernel
theorem dL_law_61 : decode cL_law 61 = .ok (.iconst 1, 1) := by decide +kernel
theorem dL_law_62 : decode cL_law 62 = .ok (.iadd, 1) := by decide +kernel
theorem dL_law_63 : decode cL_law 63 = .ok (.invokestatic 86, 3) := by decide +kernel
theorem dL_law_66 : decode cL_law 66 = .ok (.istore 8, 2) := by decide +kernel
theorem dL_law_68 : decode cL_law 68 = .ok (.aload_n 0, 1) := by decide +kernel
theorem dL_law_69 : decode cL_law 69 = .ok (.iconst 3, 1) := by decide +kernel
theorem dL_law_70 : decode cL_law 70 = .ok (.iload 6, 2) := by decide +kernel
theorem dL_law_72 : decode cL_law 72 = .ok (.imul, 1) := by decide +kernel
theorem dL_law_73 : decode cL_law 73 = .ok (.iconst 2, 1) := by decide +kernel
theorem dL_law_74 : decode cL_law 74 = .ok (.iadd, 1) := by decide +kernel
theorem dL_law_75 : decode cL_law 75 = .ok (.invokestatic 86, 3) := by decide +kernel
theorem dL_law_78 : decode cL_law 78 = .ok (.istore 9, 2) := by decide +kernel
theorem dL_law_80 : decode cL_law 80 = .ok (.iload 6, 2) := by decide +kernel
theorem dL_law_82 : decode cL_law 82 = .ok (.iconst 2, 1) := by decide +kernel
theorem dL_law_83 : decode cL_law 83 = .ok (.if_icmp .ge 7, 3) := by decide +kernel
theorem dL_law_86 : decode cL_law 86 = .ok (.iconst 0, 1) := by decide +kernel
theorem dL_law_87 : decode cL_law 87 = .ok (.goto 8, 3) := by decide +kernel
theorem dL_law_90 : decode cL_law 90 = .ok (.iload 7, 2) := by decide +kernel
theorem dL_law_92 : decode cL_law 92 = .ok (.bipush 15, 2) := by decide +kernel
theorem dL_law_94 : decode cL_law 94 = .ok (.iand, 1) := by decide +kernel
theorem dL_law_95 : decode cL_law 95 = .ok (.istore 10, 2) := by decide +kernel
theorem dL_law_97 : decode cL_law 97 = .ok (.aload_n 1, 1) := by decide +kernel
theorem dL_law_98 : decode cL_law 98 = .ok (.invokestatic 73, 3) := by decide +kernel
theorem dL_law_101 : decode cL_law 101 = .ok (.lstore 11, 2) := by decide +kernel
theorem dL_law_103 : decode cL_law 103 = .ok (.aload_n 1, 1) := by decide +kernel
theorem dL_law_104 : decode cL_law 104 = .ok (.bipush 15, 2) := by decide +kernel
theorem dL_law_106 : decode cL_law 106 = .ok (.invokevirtual 13, 3) := by decide +kernel
theorem dL_law_109 : decode cL_law 109 = .ok (.istore 13, 2) := by decide +kernel
theorem dL_law_111 : decode cL_law 111 = .ok (.aload_n 1, 1) := by decide +kernel
theorem dL_law_112 : decode cL_law 112 = .ok (.iconst 0, 1) := by decide +kernel
theorem dL_law_113 : decode cL_law 113 = .ok (.invokevirtual 13, 3) := by decide +kernel
theorem dL_law_116 : decode cL_law 116 = .ok (.istore 14, 2) := by decide +kernel
theorem dL_law_118 : decode cL_law 118 = .ok (.aload_n 1, 1) := by decide +kernel
theorem dL_law_119 : decode cL_law 119 = .ok (.iconst 2, 1) := by decide +kernel
theorem dL_law_120 : decode cL_law 120 = .ok (.invokevirtual 13, 3) := by decide +kernel
theorem dL_law_123 : decode cL_law 123 = .ok (.istore 15, 2) := by decide +kernel
theorem dL_law_125 : decode cL_law 125 = .ok (.iconst 0, 1) := by decide +kernel
theorem dL_law_126 : decode cL_law 126 = .ok (.istore 16, 2) := by decide +kernel
theorem dL_law_128 : decode cL_law 128 = .ok (.iload 16, 2) := by decide +kernel
theorem dL_law_130 : decode cL_law 130 = .ok (.iload 15, 2) := by decide +kernel
theorem dL_law_132 : decode cL_law 132 = .ok (.if_icmp .ge 20, 3) := by decide +kernel
theorem dL_law_135 : decode cL_law 135 = .ok (.aload 4, 2) := by decide +kernel
theorem dL_law_137 : decode cL_law 137 = .ok (.iload 16, 2) := by decide +kernel
theorem dL_law_139 : decode cL_law 139 = .ok (.aload_n 1, 1) := by decide +kernel
theorem dL_law_140 : decode cL_law 140 = .ok (.iload 16, 2) := by decide +kernel
theorem dL_law_142 : decode cL_law 142 = .ok (.invokestatic 89, 3) := by decide +kernel
theorem dL_law_145 : decode cL_law 145 = .ok (.iastore, 1) := by decide +kernel
theorem dL_law_146 : decode cL_law 146 = .ok (.iinc 16 1, 3) := by decide +kernel
theorem dL_law_149 : decode cL_law 149 = .ok (.goto (-21), 3) := by decide +kernel
theorem dL_law_152 : decode cL_law 152 = .ok (.aload_n 1, 1) := by decide +kernel
theorem dL_law_153 : decode cL_law 153 = .ok (.iload 10, 2) := by decide +kernel
theorem dL_law_155 : decode cL_law 155 = .ok (.iload 8, 2) := by decide +kernel
theorem dL_law_157 : decode cL_law 157 = .ok (.iload 9, 2) := by decide +kernel
theorem dL_law_159 : decode cL_law 159 = .ok (.invokestatic 81, 3) := by decide +kernel
theorem dL_law_162 : decode cL_law 162 = .ok (.istore 16, 2) := by decide +kernel
theorem dL_law_164 : decode cL_law 164 = .ok (.iload 16, 2) := by decide +kernel
theorem dL_law_166 : decode cL_law 166 = .ok (.ifCond .ge 26, 3) := by decide +kernel
theorem dL_law_169 : decode cL_law 169 = .ok (.aload_n 1, 1) := by decide +kernel
theorem dL_law_170 : decode cL_law 170 = .ok (.invokestatic 73, 3) := by decide +kernel
theorem dL_law_173 : decode cL_law 173 = .ok (.lload 11, 2) := by decide +kernel
theorem dL_law_175 : decode cL_law 175 = .ok (.lcmp, 1) := by decide +kernel
theorem dL_law_176 : decode cL_law 176 = .ok (.ifCond .ne 14, 3) := by decide +kernel
theorem dL_law_179 : decode cL_law 179 = .ok (.aload_n 1, 1) := by decide +kernel
theorem dL_law_180 : decode cL_law 180 = .ok (.bipush 15, 2) := by decide +kernel
theorem dL_law_182 : decode cL_law 182 = .ok (.invokevirtual 13, 3) := by decide +kernel
theorem dL_law_185 : decode cL_law 185 = .ok (.iload 13, 2) := by decide +kernel
theorem dL_law_187 : decode cL_law 187 = .ok (.if_icmp .eq 81, 3) := by decide +kernel
theorem dL_law_190 : decode cL_law 190 = .ok (.iconst 0, 1) := by decide +kernel
theorem dL_law_191 : decode cL_law 191 = .ok (.ireturn, 1) := by decide +kernel
theorem dL_law_192 : decode cL_law 192 = .ok (.lload_n 2, 1) := by decide +kernel
theorem dL_law_193 : decode cL_law 193 = .ok (.iload 10, 2) := by decide +kernel
theorem dL_law_195 : decode cL_law 195 = .ok (.iload 8, 2) := by decide +kernel
theorem dL_law_197 : decode cL_law 197 = .ok (.iload 9, 2) := by decide +kernel
theorem dL_law_199 : decode cL_law 199 = .ok (.iload 16, 2) := by decide +kernel
theorem dL_law_201 : decode cL_law 201 = .ok (.invokestatic 93, 3) := by decide +kernel
theorem dL_law_204 : decode cL_law 204 = .ok (.ladd, 1) := by decide +kernel
theorem dL_law_205 : decode cL_law 205 = .ok (.lstore_n 2, 1) := by decide +kernel
theorem dL_law_206 : decode cL_law 206 = .ok (.aload_n 1, 1) := by decide +kernel
theorem dL_law_207 : decode cL_law 207 = .ok (.bipush 15, 2) := by decide +kernel
theorem dL_law_209 : decode cL_law 209 = .ok (.invokevirtual 13, 3) := by decide +kernel
theorem dL_law_212 : decode cL_law 212 = .ok (.iload 13, 2) := by decide +kernel
theorem dL_law_214 : decode cL_law 214 = .ok (.iconst 4, 1) := by decide +kernel
theorem dL_law_215 : decode cL_law 215 = .ok (.if_icmp .ge 10, 3) := by decide +kernel
theorem dL_law_218 : decode cL_law 218 = .ok (.iload 13, 2) := by decide +kernel
theorem dL_law_220 : decode cL_law 220 = .ok (.iconst 1, 1) := by decide +kernel
theorem dL_law_221 : decode cL_law 221 = .ok (.iadd, 1) := by decide +kernel
theorem dL_law_222 : decode cL_law 222 = .ok (.goto 4, 3) := by decide +kernel
theorem dL_law_225 : decode cL_law 225 = .ok (.iconst 4, 1) := by decide +kernel
theorem dL_law_226 : decode cL_law 226 = .ok (.if_icmp .ne 40, 3) := by decide +kernel
theorem dL_law_229 : decode cL_law 229 = .ok (.aload_n 1, 1) := by decide +kernel
theorem dL_law_230 : decode cL_law 230 = .ok (.iconst 0, 1) := by decide +kernel
theorem dL_law_231 : decode cL_law 231 = .ok (.invokevirtual 13, 3) := by decide +kernel
theorem dL_law_234 : decode cL_law 234 = .ok (.iload 14, 2) := by decide +kernel
theorem dL_law_236 : decode cL_law 236 = .ok (.iconst 1, 1) := by decide +kernel
theorem dL_law_237 : decode cL_law 237 = .ok (.iadd, 1) := by decide +kernel
theorem dL_law_238 : decode cL_law 238 = .ok (.if_icmp .gt 28, 3) := by decide +kernel
theorem dL_law_241 : decode cL_law 241 = .ok (.iload 7, 2) := by decide +kernel
theorem dL_law_243 : decode cL_law 243 = .ok (.bipush 16, 2) := by decide +kernel
theorem dL_law_245 : decode cL_law 245 = .ok (.iand, 1) := by decide +kernel
theorem dL_law_246 : decode cL_law 246 = .ok (.ifCond .ne 22, 3) := by decide +kernel
theorem dL_law_249 : decode cL_law 249 = .ok (.aload_n 1, 1) := by decide +kernel
theorem dL_law_250 : decode cL_law 250 = .ok (.iload 10, 2) := by decide +kernel
theorem dL_law_252 : decode cL_law 252 = .ok (.iload 8, 2) := by decide +kernel
theorem dL_law_254 : decode cL_law 254 = .ok (.iload 9, 2) := by decide +kernel
theorem dL_law_256 : decode cL_law 256 = .ok (.iload 16, 2) := by decide +kernel
theorem dL_law_258 : decode cL_law 258 = .ok (.lload 11, 2) := by decide +kernel
theorem dL_law_260 : decode cL_law 260 = .ok (.invokestatic 97, 3) := by decide +kernel
theorem dL_law_263 : decode cL_law 263 = .ok (.ifCond .ne 5, 3) := by decide +kernel
theorem dL_law_266 : decode cL_law 266 = .ok (.iconst 0, 1) := by decide +kernel
theorem dL_law_267 : decode cL_law 267 = .ok (.ireturn, 1) := by decide +kernel
theorem dL_law_268 : decode cL_law 268 = .ok (.iconst 0, 1) := by decide +kernel
theorem dL_law_269 : decode cL_law 269 = .ok (.istore 17, 2) := by decide +kernel
theorem dL_law_271 : decode cL_law 271 = .ok (.iload 17, 2) := by decide +kernel
theorem dL_law_273 : decode cL_law 273 = .ok (.iload 15, 2) := by decide +kernel
theorem dL_law_275 : decode cL_law 275 = .ok (.if_icmp .ge 44, 3) := by decide +kernel
theorem dL_law_278 : decode cL_law 278 = .ok (.aload_n 1, 1) := by decide +kernel
theorem dL_law_279 : decode cL_law 279 = .ok (.iload 17, 2) := by decide +kernel
theorem dL_law_281 : decode cL_law 281 = .ok (.invokestatic 89, 3) := by decide +kernel
theorem dL_law_284 : decode cL_law 284 = .ok (.istore 18, 2) := by decide +kernel
theorem dL_law_286 : decode cL_law 286 = .ok (.iload 18, 2) := by decide +kernel
theorem dL_law_288 : decode cL_law 288 = .ok (.ifCond .lt 13, 3) := by decide +kernel
theorem dL_law_291 : decode cL_law 291 = .ok (.iload 18, 2) := by decide +kernel
theorem dL_law_293 : decode cL_law 293 = .ok (.aload 4, 2) := by decide +kernel
theorem dL_law_295 : decode cL_law 295 = .ok (.iload 17, 2) := by decide +kernel
theorem dL_law_297 : decode cL_law 297 = .ok (.iaload, 1) := by decide +kernel
theorem dL_law_298 : decode cL_law 298 = .ok (.if_icmp .ne 13, 3) := by decide +kernel
theorem dL_law_301 : decode cL_law 301 = .ok (.aload_n 1, 1) := by decide +kernel
theorem dL_law_302 : decode cL_law 302 = .ok (.iload 17, 2) := by decide +kernel
theorem dL_law_304 : decode cL_law 304 = .ok (.iconst 2, 1) := by decide +kernel
theorem dL_law_305 : decode cL_law 305 = .ok (.invokevirtual 27, 3) := by decide +kernel
theorem dL_law_308 : decode cL_law 308 = .ok (.ifCond .ge 5, 3) := by decide +kernel
theorem dL_law_311 : decode cL_law 311 = .ok (.iconst 0, 1) := by decide +kernel
theorem dL_law_312 : decode cL_law 312 = .ok (.ireturn, 1) := by decide +kernel
theorem dL_law_313 : decode cL_law 313 = .ok (.iinc 17 1, 3) := by decide +kernel
theorem dL_law_316 : decode cL_law 316 = .ok (.goto (-45), 3) := by decide +kernel
theorem dL_law_319 : decode cL_law 319 = .ok (.aload_n 1, 1) := by decide +kernel
theorem dL_law_320 : decode cL_law 320 = .ok (.invokestatic 101, 3) := by decide +kernel
theorem dL_law_323 : decode cL_law 323 = .ok (.ifCond .eq 13, 3) := by decide +kernel
theorem dL_law_326 : decode cL_law 326 = .ok (.aload_n 1, 1) := by decide +kernel
theorem dL_law_327 : decode cL_law 327 = .ok (.lload_n 2, 1) := by decide +kernel
theorem dL_law_328 : decode cL_law 328 = .ok (.invokestatic 105, 3) := by decide +kernel
theorem dL_law_331 : decode cL_law 331 = .ok (.lconst 0, 1) := by decide +kernel
theorem dL_law_332 : decode cL_law 332 = .ok (.lcmp, 1) := by decide +kernel
theorem dL_law_333 : decode cL_law 333 = .ok (.ifCond .eq 5, 3) := by decide +kernel
theorem dL_law_336 : decode cL_law 336 = .ok (.iconst 0, 1) := by decide +kernel
theorem dL_law_337 : decode cL_law 337 = .ok (.ireturn, 1) := by decide +kernel
theorem dL_law_338 : decode cL_law 338 = .ok (.iinc 6 1, 3) := by decide +kernel
theorem dL_law_341 : decode cL_law 341 = .ok (.goto (-302), 3) := by decide +kernel
theorem dL_law_344 : decode cL_law 344 = .ok (.iconst 1, 1) := by decide +kernel
theorem dL_law_345 : decode cL_law 345 = .ok (.ireturn, 1) := by decide +kernel
end
section
/-! the words of the tables that a call may carry, and the nest mates' links -/
def kWs : List Cond := k2_sels lw_privs ++ tables_1.filter goodWord
theorem kWs_in : ∀ w ∈ kWs, w ∈ lw_tbl := fun w h => (List.mem_append.mp h).elim (fun h => List.mem_append_left _ h) (fun h => List.mem_append_right _ (List.mem_filter.mp h).1)
theorem kWs_good : ∀ w ∈ kWs, goodWord w = true := by
  intro w h
  rcases List.mem_append.mp h with h | h
  · obtain ⟨q, -, rfl⟩ := List.mem_map.mp h
    rfl
  · exact (List.mem_filter.mp h).2
theorem kWs_of {w : Cond} (i : Nat) (h : tables_1[i]? = some w) (hg : goodWord w = true) : w ∈ kWs := List.mem_append_right _ (List.mem_filter.mpr ⟨List.mem_of_getElem? h, hg⟩)
theorem kWs_pr {w : Cond} (i : Nat) (h : (k2_sels lw_privs)[i]? = some w) : w ∈ kWs := List.mem_append_left _ (List.mem_of_getElem? h)
def kNw : List Cond := [.methodLinkNest "RentedMoments$State" 37 ⟨"RentedMoments$Cell", "<init>", "()V"⟩ "RentedMoments", .fieldLinkNest "RentedMoments" 175 "RentedMoments$Cell" "values" "[I" "RentedMoments", .fieldLinkNest "RentedMoments" 176 "RentedMoments$Cell" "moments" "[I" "RentedMoments", .fieldLinkNest "RentedMoments$State" 143 "RentedMoments$Cell" "moments" "[I" "RentedMoments", .fieldLinkNest "RentedMoments$State" 98 "RentedMoments$Cell" "places" "I" "RentedMoments", .fieldLinkNest "RentedMoments" 179 "RentedMoments$Cell" "places" "I" "RentedMoments", .methodLinkNest "RentedMoments$State" 38 ⟨"RentedMoments$Reader", "<init>", "()V"⟩ "RentedMoments", .fieldLinkNest "RentedMoments" 105 "RentedMoments$Reader" "writes" "[I" "RentedMoments", .fieldLinkNest "RentedMoments$State" 185 "RentedMoments$Reader" "writes" "[I" "RentedMoments", .fieldLinkNest "RentedMoments$State" 73 "RentedMoments$Reader" "state" "I" "RentedMoments", .fieldLinkNest "RentedMoments" 79 "RentedMoments$Reader" "state" "I" "RentedMoments", .fieldLinkNest "RentedMoments$Commit" 28 "RentedMoments$Reader" "moment" "I" "RentedMoments", .fieldLinkNest "RentedMoments$State" 90 "RentedMoments$Reader" "moment" "I" "RentedMoments", .fieldLinkNest "RentedMoments" 116 "RentedMoments$Reader" "moment" "I" "RentedMoments", .fieldLinkNest "RentedMoments" 65 "RentedMoments$Reader" "purse" "I" "RentedMoments", .fieldLinkNest "RentedMoments$State" 137 "RentedMoments$Reader" "purse" "I" "RentedMoments", .fieldLinkNest "RentedMoments$Commit" 33 "RentedMoments$Reader" "readCells" "I" "RentedMoments", .fieldLinkNest "RentedMoments" 109 "RentedMoments$Reader" "readCells" "I" "RentedMoments", .fieldLinkNest "RentedMoments$State" 178 "RentedMoments$Reader" "readCells" "I" "RentedMoments", .fieldLinkNest "RentedMoments$Commit" 34 "RentedMoments$Reader" "writtenCells" "I" "RentedMoments", .fieldLinkNest "RentedMoments" 195 "RentedMoments$Reader" "writtenCells" "I" "RentedMoments", .fieldLinkNest "RentedMoments$State" 158 "RentedMoments$Reader" "writtenCells" "I" "RentedMoments", .fieldLinkNest "RentedMoments" 76 "RentedMoments$Reader" "term" "I" "RentedMoments", .fieldLinkNest "RentedMoments$State" 140 "RentedMoments$Reader" "term" "I" "RentedMoments", .fieldLinkNest "RentedMoments$State" 80 "RentedMoments$Reader" "paid" "I" "RentedMoments", .fieldLinkNest "RentedMoments" 198 "RentedMoments$Reader" "paid" "I" "RentedMoments", .fieldLinkNest "RentedMoments" 68 "RentedMoments$Reader" "wasWidow" "Z" "RentedMoments", .methodLinkNest "RentedMoments$State" 39 ⟨"RentedMoments$Commit", "<init>", "()V"⟩ "RentedMoments", .fieldLinkNest "RentedMoments" 217 "RentedMoments$Commit" "reader" "I" "RentedMoments", .fieldLinkNest "RentedMoments$State" 168 "RentedMoments$Commit" "reader" "I" "RentedMoments", .fieldLinkNest "RentedMoments" 222 "RentedMoments$Commit" "readerMoment" "I" "RentedMoments", .fieldLinkNest "RentedMoments$State" 171 "RentedMoments$Commit" "readerMoment" "I" "RentedMoments", .fieldLinkNest "RentedMoments" 225 "RentedMoments$Commit" "madeMoment" "I" "RentedMoments", .fieldLinkNest "RentedMoments$State" 174 "RentedMoments$Commit" "madeMoment" "I" "RentedMoments", .fieldLinkNest "RentedMoments" 228 "RentedMoments$Commit" "writtenCells" "I" "RentedMoments", .fieldLinkNest "RentedMoments$State" 177 "RentedMoments$Commit" "writtenCells" "I" "RentedMoments", .fieldLinkNest "RentedMoments" 229 "RentedMoments$Commit" "readCells" "I" "RentedMoments", .fieldLinkNest "RentedMoments$State" 181 "RentedMoments$Commit" "readCells" "I" "RentedMoments", .fieldLinkNest "RentedMoments" 230 "RentedMoments$Commit" "skews" "I" "RentedMoments", .fieldLinkNest "RentedMoments$State" 150 "RentedMoments$Commit" "skews" "I" "RentedMoments", .fieldLinkNest "RentedMoments" 112 "RentedMoments$State" "cells" "[LRentedMoments$Cell;" "RentedMoments", .fieldLinkNest "RentedMoments" 55 "RentedMoments$State" "readers" "[LRentedMoments$Reader;" "RentedMoments", .fieldLinkNest "RentedMoments" 213 "RentedMoments$State" "commits" "[LRentedMoments$Commit;" "RentedMoments", .fieldLinkNest "RentedMoments" 144 "RentedMoments$State" "moment" "I" "RentedMoments", .fieldLinkNest "RentedMoments" 207 "RentedMoments$State" "tickNumber" "I" "RentedMoments", .fieldLinkNest "RentedMoments" 86 "RentedMoments$State" "rent" "I" "RentedMoments", .fieldLinkNest "RentedMoments" 36 "RentedMoments$State" "readersBeen" "I" "RentedMoments", .fieldLinkNest "RentedMoments" 210 "RentedMoments$State" "commitsMade" "I" "RentedMoments", .fieldLinkNest "RentedMoments" 236 "RentedMoments$State" "removedVersions" "I" "RentedMoments", .fieldLinkNest "RentedMoments" 89 "RentedMoments$State" "skewForbidden" "Z" "RentedMoments", .fieldLinkNest "RentedMoments" 165 "RentedMoments$History" "length" "I" "RentedMoments", .methodLinkNest "RentedMoments" 31 ⟨"RentedMoments$WriteText", "<init>", "()V"⟩ "RentedMoments", .fieldLinkNest "RentedMoments" 145 "RentedMoments$WriteText" "length" "I" "RentedMoments"]
theorem kNw_in : ∀ w ∈ kNw, w ∈ tables_1 := by
  intro w h
  rw [show kNw = [31, 36, 38, 39, 41, 42, 52, 57, 58, 60, 61, 63, 64, 65, 67, 68, 70, 71, 72, 74, 75, 76, 78, 79, 81, 82, 84, 105, 110, 111, 113, 114, 116, 117, 119, 120, 122, 123, 125, 126, 141, 143, 145, 147, 149, 151, 152, 155, 157, 159, 195, 203, 208].filterMap (fun i => tables_1[i]?) from by decide +kernel] at h
  obtain ⟨i, -, hi⟩ := List.mem_filterMap.mp h
  exact List.mem_of_getElem? hi
theorem inK0 : ∀ w ∈ u_ws RX0 TX0 3, w ∈ kWs := by
  intro w h
  rw [show u_ws RX0 TX0 3 = [43, 45, 47].filterMap (fun i => tables_1[i]?) from by decide +kernel] at h
  obtain ⟨i, -, hi⟩ := List.mem_filterMap.mp h
  exact kWs_of i hi (List.all_eq_true.mp (show ([43, 45, 47].filterMap (fun i => tables_1[i]?)).all goodWord = true from by decide +kernel) w h)
theorem inK1 : ∀ w ∈ u_ws RX1 TX1 6, w ∈ kWs := by
  intro w h
  rw [show u_ws RX1 TX1 6 = [127, 129, 131, 133, 135, 137].filterMap (fun i => tables_1[i]?) from by decide +kernel] at h
  obtain ⟨i, -, hi⟩ := List.mem_filterMap.mp h
  exact kWs_of i hi (List.all_eq_true.mp (show ([127, 129, 131, 133, 135, 137].filterMap (fun i => tables_1[i]?)).all goodWord = true from by decide +kernel) w h)
theorem inK2 : ∀ w ∈ u_ws RX2 TX2 2, w ∈ kWs := by
  intro w h
  rw [show u_ws RX2 TX2 2 = [196, 198].filterMap (fun i => tables_1[i]?) from by decide +kernel] at h
  obtain ⟨i, -, hi⟩ := List.mem_filterMap.mp h
  exact kWs_of i hi (List.all_eq_true.mp (show ([196, 198].filterMap (fun i => tables_1[i]?)).all goodWord = true from by decide +kernel) w h)
theorem inK3 : ∀ w ∈ u_ws RX3 TX3 9, w ∈ kWs := by
  intro w h
  rw [show u_ws RX3 TX3 9 = [85, 87, 89, 91, 93, 95, 97, 99, 101].filterMap (fun i => tables_1[i]?) from by decide +kernel] at h
  obtain ⟨i, -, hi⟩ := List.mem_filterMap.mp h
  exact kWs_of i hi (List.all_eq_true.mp (show ([85, 87, 89, 91, 93, 95, 97, 99, 101].filterMap (fun i => tables_1[i]?)).all goodWord = true from by decide +kernel) w h)
theorem inK4 : ∀ w ∈ u_ws RX4 TX4 11, w ∈ kWs := by
  intro w h
  rw [show u_ws RX4 TX4 11 = [161, 163, 165, 167, 169, 171, 173, 175, 177, 179, 181].filterMap (fun i => tables_1[i]?) from by decide +kernel] at h
  obtain ⟨i, -, hi⟩ := List.mem_filterMap.mp h
  exact kWs_of i hi (List.all_eq_true.mp (show ([161, 163, 165, 167, 169, 171, 173, 175, 177, 179, 181].filterMap (fun i => tables_1[i]?)).all goodWord = true from by decide +kernel) w h)
theorem inK5 : ∀ w ∈ u_ws RX5 TX5 5, w ∈ kWs := by
  intro w h
  rw [show u_ws RX5 TX5 5 = [211, 213, 215, 217, 219].filterMap (fun i => tables_1[i]?) from by decide +kernel] at h
  obtain ⟨i, -, hi⟩ := List.mem_filterMap.mp h
  exact kWs_of i hi (List.all_eq_true.mp (show ([211, 213, 215, 217, 219].filterMap (fun i => tables_1[i]?)).all goodWord = true from by decide +kernel) w h)
theorem inK6 : ∀ w ∈ u_ws RX6 TX6 6, w ∈ kWs := by
  intro w h
  rw [show u_ws RX6 TX6 6 = [228, 230, 232, 234, 236, 238].filterMap (fun i => tables_1[i]?) from by decide +kernel] at h
  obtain ⟨i, -, hi⟩ := List.mem_filterMap.mp h
  exact kWs_of i hi (List.all_eq_true.mp (show ([228, 230, 232, 234, 236, 238].filterMap (fun i => tables_1[i]?)).all goodWord = true from by decide +kernel) w h)
set_option maxRecDepth 100000 in
theorem mw_X6_init : Cond.code yX6_init cX6_init 1 none ∈ kWs ∧ Cond.instanceMethod yX6_init ∈ kWs ∧ Cond.initialized RX6 ∈ kWs := ⟨kWs_of 14 rfl rfl, kWs_of 13 (by decide +kernel) rfl, kWs_of 1 (by decide +kernel) rfl⟩
set_option maxRecDepth 100000 in
theorem mw_X4_init : Cond.code yX4_init cX4_init 2 none ∈ kWs ∧ Cond.instanceMethod yX4_init ∈ kWs ∧ Cond.initialized RX4 ∈ kWs := ⟨kWs_of 22 rfl rfl, kWs_of 21 (by decide +kernel) rfl, kWs_of 2 (by decide +kernel) rfl⟩
set_option maxRecDepth 100000 in
theorem mw_X0_init : Cond.code yX0_init cX0_init 1 none ∈ kWs ∧ Cond.instanceMethod yX0_init ∈ kWs ∧ Cond.initialized RX0 ∈ kWs := ⟨kWs_of 33 rfl rfl, kWs_of 32 (by decide +kernel) rfl, kWs_of 3 (by decide +kernel) rfl⟩
set_option maxRecDepth 100000 in
theorem mw_X3_init : Cond.code yX3_init cX3_init 1 none ∈ kWs ∧ Cond.instanceMethod yX3_init ∈ kWs ∧ Cond.initialized RX3 ∈ kWs := ⟨kWs_of 54 rfl rfl, kWs_of 53 (by decide +kernel) rfl, kWs_of 4 (by decide +kernel) rfl⟩
set_option maxRecDepth 100000 in
theorem mw_X1_init : Cond.code yX1_init cX1_init 1 none ∈ kWs ∧ Cond.instanceMethod yX1_init ∈ kWs ∧ Cond.initialized RX1 ∈ kWs := ⟨kWs_of 107 rfl rfl, kWs_of 106 (by decide +kernel) rfl, kWs_of 5 (by decide +kernel) rfl⟩
set_option maxRecDepth 100000 in
theorem mw_X2_init : Cond.code yX2_init cX2_init 2 none ∈ kWs ∧ Cond.instanceMethod yX2_init ∈ kWs ∧ Cond.initialized RX2 ∈ kWs := ⟨kWs_of 188 rfl rfl, kWs_of 187 (by decide +kernel) rfl, kWs_of 6 (by decide +kernel) rfl⟩
set_option maxRecDepth 100000 in
theorem mw_X5_init : Cond.code yX5_init cX5_init 1 none ∈ kWs ∧ Cond.instanceMethod yX5_init ∈ kWs ∧ Cond.initialized RX5 ∈ kWs := ⟨kWs_of 205 rfl rfl, kWs_of 204 (by decide +kernel) rfl, kWs_of 7 (by decide +kernel) rfl⟩
set_option maxRecDepth 100000 in
theorem mw_L_cell : Cond.code yL_cell cL_cell 2 (some .int) ∈ kWs ∧ Cond.static yL_cell ∈ kWs ∧ Cond.initialized RL ∈ kWs := ⟨kWs_of 332 rfl rfl, kWs_of 331 (by decide +kernel) rfl, kWs_of 0 (by decide +kernel) rfl⟩
set_option maxRecDepth 100000 in
theorem mw_L_view : Cond.code yL_view cL_view 6 (some .long) ∈ kWs ∧ Cond.static yL_view ∈ kWs ∧ Cond.initialized RL ∈ kWs := ⟨kWs_of 336 rfl rfl, kWs_of 335 (by decide +kernel) rfl, kWs_of 0 (by decide +kernel) rfl⟩
set_option maxRecDepth 100000 in
theorem mw_X6_count : Cond.code yX6_count cX6_count 2 (some .int) ∈ kWs ∧ Cond.instanceMethod yX6_count ∈ kWs ∧ Cond.selects RX6 yX6_count yX6_count ∈ kWs ∧ Cond.initialized RX6 ∈ kWs := ⟨kWs_of 305 rfl rfl, kWs_of 303 (by decide +kernel) rfl, kWs_of 304 (by decide +kernel) rfl, kWs_of 1 (by decide +kernel) rfl⟩
set_option maxRecDepth 100000 in
theorem mw_X4_readersIn : Cond.code yX4_readersIn cX4_readersIn 4 (some .int) ∈ kWs ∧ Cond.instanceMethod yX4_readersIn ∈ kWs ∧ Cond.selects RX4 yX4_readersIn yX4_readersIn ∈ kWs ∧ Cond.initialized RX4 ∈ kWs := ⟨kWs_of 309 rfl rfl, kWs_of 307 (by decide +kernel) rfl, kWs_of 308 (by decide +kernel) rfl, kWs_of 2 (by decide +kernel) rfl⟩
set_option maxRecDepth 100000 in
theorem mw_X4_oldVersions : Cond.code yX4_oldVersions cX4_oldVersions 3 (some .int) ∈ kWs ∧ Cond.instanceMethod yX4_oldVersions ∈ kWs ∧ Cond.selects RX4 yX4_oldVersions yX4_oldVersions ∈ kWs ∧ Cond.initialized RX4 ∈ kWs := ⟨kWs_of 313 rfl rfl, kWs_of 311 (by decide +kernel) rfl, kWs_of 312 (by decide +kernel) rfl, kWs_of 2 (by decide +kernel) rfl⟩
set_option maxRecDepth 100000 in
theorem mw_X4_coinsPaid : Cond.code yX4_coinsPaid cX4_coinsPaid 3 (some .int) ∈ kWs ∧ Cond.instanceMethod yX4_coinsPaid ∈ kWs ∧ Cond.selects RX4 yX4_coinsPaid yX4_coinsPaid ∈ kWs ∧ Cond.initialized RX4 ∈ kWs := ⟨kWs_of 317 rfl rfl, kWs_of 315 (by decide +kernel) rfl, kWs_of 316 (by decide +kernel) rfl, kWs_of 2 (by decide +kernel) rfl⟩
set_option maxRecDepth 100000 in
theorem mw_X4_pairsInSkew : Cond.code yX4_pairsInSkew cX4_pairsInSkew 3 (some .int) ∈ kWs ∧ Cond.instanceMethod yX4_pairsInSkew ∈ kWs ∧ Cond.selects RX4 yX4_pairsInSkew yX4_pairsInSkew ∈ kWs ∧ Cond.initialized RX4 ∈ kWs := ⟨kWs_of 321 rfl rfl, kWs_of 319 (by decide +kernel) rfl, kWs_of 320 (by decide +kernel) rfl, kWs_of 2 (by decide +kernel) rfl⟩
set_option maxRecDepth 100000 in
theorem mw_X4_openWidows : Cond.code yX4_openWidows cX4_openWidows 3 (some .int) ∈ kWs ∧ Cond.instanceMethod yX4_openWidows ∈ kWs ∧ Cond.selects RX4 yX4_openWidows yX4_openWidows ∈ kWs ∧ Cond.initialized RX4 ∈ kWs := ⟨kWs_of 325 rfl rfl, kWs_of 323 (by decide +kernel) rfl, kWs_of 324 (by decide +kernel) rfl, kWs_of 2 (by decide +kernel) rfl⟩
set_option maxRecDepth 100000 in
theorem mw_X3_isOpenWidow : Cond.code yX3_isOpenWidow cX3_isOpenWidow 1 (some .boolean) ∈ kWs ∧ Cond.instanceMethod yX3_isOpenWidow ∈ kWs ∧ Cond.selects RX3 yX3_isOpenWidow yX3_isOpenWidow ∈ kWs ∧ Cond.initialized RX3 ∈ kWs := ⟨kWs_of 329 rfl rfl, kWs_of 327 (by decide +kernel) rfl, kWs_of 328 (by decide +kernel) rfl, kWs_of 4 (by decide +kernel) rfl⟩
set_option maxRecDepth 100000 in
theorem mw_X6_cell : Cond.code yX6_cell cX6_cell 4 (some .int) ∈ kWs ∧ Cond.instanceMethod yX6_cell ∈ kWs ∧ Cond.selects RX6 yX6_cell yX6_cell ∈ kWs ∧ Cond.initialized RX6 ∈ kWs := ⟨kWs_of 342 rfl rfl, kWs_of 340 (by decide +kernel) rfl, kWs_of 341 (by decide +kernel) rfl, kWs_of 1 (by decide +kernel) rfl⟩
set_option maxRecDepth 100000 in
theorem mw_X6_isCell : Cond.code yX6_isCell cX6_isCell 1 (some .boolean) ∈ kWs ∧ Cond.static yX6_isCell ∈ kWs ∧ Cond.initialized RX6 ∈ kWs := ⟨kWs_of 345 rfl rfl, kWs_of 344 (by decide +kernel) rfl, kWs_of 1 (by decide +kernel) rfl⟩
set_option maxRecDepth 100000 in
theorem mw_X4_seersOf : Cond.code yX4_seersOf cX4_seersOf 6 (some .int) ∈ kWs ∧ Cond.instanceMethod yX4_seersOf ∈ kWs ∧ Cond.selects RX4 yX4_seersOf yX4_seersOf ∈ kWs ∧ Cond.initialized RX4 ∈ kWs := ⟨kWs_of 349 rfl rfl, kWs_of 347 (by decide +kernel) rfl, kWs_of 348 (by decide +kernel) rfl, kWs_of 2 (by decide +kernel) rfl⟩
set_option maxRecDepth 100000 in
theorem mw_X3_isOpen : Cond.code yX3_isOpen cX3_isOpen 1 (some .boolean) ∈ kWs ∧ Cond.instanceMethod yX3_isOpen ∈ kWs ∧ Cond.selects RX3 yX3_isOpen yX3_isOpen ∈ kWs ∧ Cond.initialized RX3 ∈ kWs := ⟨kWs_of 272 rfl rfl, kWs_of 270 (by decide +kernel) rfl, kWs_of 271 (by decide +kernel) rfl, kWs_of 4 (by decide +kernel) rfl⟩
set_option maxRecDepth 100000 in
theorem mw_X0_placeSeenAt : Cond.code yX0_placeSeenAt cX0_placeSeenAt 3 (some .int) ∈ kWs ∧ Cond.instanceMethod yX0_placeSeenAt ∈ kWs ∧ Cond.selects RX0 yX0_placeSeenAt yX0_placeSeenAt ∈ kWs ∧ Cond.initialized RX0 ∈ kWs := ⟨kWs_of 260 rfl rfl, kWs_of 258 (by decide +kernel) rfl, kWs_of 259 (by decide +kernel) rfl, kWs_of 3 (by decide +kernel) rfl⟩
set_option maxRecDepth 100000 in
theorem mw_X4_writersOf : Cond.code yX4_writersOf cX4_writersOf 4 (some .int) ∈ kWs ∧ Cond.instanceMethod yX4_writersOf ∈ kWs ∧ Cond.selects RX4 yX4_writersOf yX4_writersOf ∈ kWs ∧ Cond.initialized RX4 ∈ kWs := ⟨kWs_of 354 rfl rfl, kWs_of 352 (by decide +kernel) rfl, kWs_of 353 (by decide +kernel) rfl, kWs_of 2 (by decide +kernel) rfl⟩
set_option maxRecDepth 100000 in
theorem mw_X3_hasWrite : Cond.code yX3_hasWrite cX3_hasWrite 2 (some .boolean) ∈ kWs ∧ Cond.instanceMethod yX3_hasWrite ∈ kWs ∧ Cond.selects RX3 yX3_hasWrite yX3_hasWrite ∈ kWs ∧ Cond.initialized RX3 ∈ kWs := ⟨kWs_of 293 rfl rfl, kWs_of 291 (by decide +kernel) rfl, kWs_of 292 (by decide +kernel) rfl, kWs_of 4 (by decide +kernel) rfl⟩
set_option maxRecDepth 100000 in
theorem mw_X6_version : Cond.code yX6_version cX6_version 5 (some .int) ∈ kWs ∧ Cond.instanceMethod yX6_version ∈ kWs ∧ Cond.selects RX6 yX6_version yX6_version ∈ kWs ∧ Cond.initialized RX6 ∈ kWs := ⟨kWs_of 358 rfl rfl, kWs_of 356 (by decide +kernel) rfl, kWs_of 357 (by decide +kernel) rfl, kWs_of 1 (by decide +kernel) rfl⟩
set_option maxRecDepth 100000 in
theorem mw_X4_payersOf : Cond.code yX4_payersOf cX4_payersOf 6 (some .int) ∈ kWs ∧ Cond.instanceMethod yX4_payersOf ∈ kWs ∧ Cond.selects RX4 yX4_payersOf yX4_payersOf ∈ kWs ∧ Cond.initialized RX4 ∈ kWs := ⟨kWs_of 268 rfl rfl, kWs_of 266 (by decide +kernel) rfl, kWs_of 267 (by decide +kernel) rfl, kWs_of 2 (by decide +kernel) rfl⟩
set_option maxRecDepth 100000 in
theorem mw_X3_paysRent : Cond.code yX3_paysRent cX3_paysRent 1 (some .boolean) ∈ kWs ∧ Cond.instanceMethod yX3_paysRent ∈ kWs ∧ Cond.selects RX3 yX3_paysRent yX3_paysRent ∈ kWs ∧ Cond.initialized RX3 ∈ kWs := ⟨kWs_of 256 rfl rfl, kWs_of 254 (by decide +kernel) rfl, kWs_of 255 (by decide +kernel) rfl, kWs_of 4 (by decide +kernel) rfl⟩
set_option maxRecDepth 100000 in
theorem mw_X4_shareOf : Cond.code yX4_shareOf cX4_shareOf 4 (some .int) ∈ kWs ∧ Cond.instanceMethod yX4_shareOf ∈ kWs ∧ Cond.selects RX4 yX4_shareOf yX4_shareOf ∈ kWs ∧ Cond.initialized RX4 ∈ kWs := ⟨kWs_of 264 rfl rfl, kWs_of 262 (by decide +kernel) rfl, kWs_of 263 (by decide +kernel) rfl, kWs_of 2 (by decide +kernel) rfl⟩
set_option maxRecDepth 100000 in
theorem mw_X6_reader : Cond.code yX6_reader cX6_reader 4 (some .int) ∈ kWs ∧ Cond.instanceMethod yX6_reader ∈ kWs ∧ Cond.selects RX6 yX6_reader yX6_reader ∈ kWs ∧ Cond.initialized RX6 ∈ kWs := ⟨kWs_of 244 rfl rfl, kWs_of 242 (by decide +kernel) rfl, kWs_of 243 (by decide +kernel) rfl, kWs_of 1 (by decide +kernel) rfl⟩
set_option maxRecDepth 100000 in
theorem mw_X4_hasReader : Cond.code yX4_hasReader cX4_hasReader 2 (some .boolean) ∈ kWs ∧ Cond.instanceMethod yX4_hasReader ∈ kWs ∧ Cond.selects RX4 yX4_hasReader yX4_hasReader ∈ kWs ∧ Cond.initialized RX4 ∈ kWs := ⟨kWs_of 248 rfl rfl, kWs_of 246 (by decide +kernel) rfl, kWs_of 247 (by decide +kernel) rfl, kWs_of 2 (by decide +kernel) rfl⟩
set_option maxRecDepth 100000 in
theorem mw_X4_dueOf : Cond.code yX4_dueOf cX4_dueOf 4 (some .int) ∈ kWs ∧ Cond.instanceMethod yX4_dueOf ∈ kWs ∧ Cond.selects RX4 yX4_dueOf yX4_dueOf ∈ kWs ∧ Cond.initialized RX4 ∈ kWs := ⟨kWs_of 252 rfl rfl, kWs_of 250 (by decide +kernel) rfl, kWs_of 251 (by decide +kernel) rfl, kWs_of 2 (by decide +kernel) rfl⟩
set_option maxRecDepth 100000 in
theorem mw_X4_oldVersionsSeenBy : Cond.code yX4_oldVersionsSeenBy cX4_oldVersionsSeenBy 4 (some .int) ∈ kWs ∧ Cond.instanceMethod yX4_oldVersionsSeenBy ∈ kWs ∧ Cond.selects RX4 yX4_oldVersionsSeenBy yX4_oldVersionsSeenBy ∈ kWs ∧ Cond.initialized RX4 ∈ kWs := ⟨kWs_of 276 rfl rfl, kWs_of 274 (by decide +kernel) rfl, kWs_of 275 (by decide +kernel) rfl, kWs_of 2 (by decide +kernel) rfl⟩
set_option maxRecDepth 100000 in
theorem mw_X4_sumSeenBy : Cond.code yX4_sumSeenBy cX4_sumSeenBy 4 (some .int) ∈ kWs ∧ Cond.instanceMethod yX4_sumSeenBy ∈ kWs ∧ Cond.selects RX4 yX4_sumSeenBy yX4_sumSeenBy ∈ kWs ∧ Cond.initialized RX4 ∈ kWs := ⟨kWs_of 280 rfl rfl, kWs_of 278 (by decide +kernel) rfl, kWs_of 279 (by decide +kernel) rfl, kWs_of 2 (by decide +kernel) rfl⟩
set_option maxRecDepth 100000 in
theorem mw_X0_valueSeenAt : Cond.code yX0_valueSeenAt cX0_valueSeenAt 3 (some .int) ∈ kWs ∧ Cond.instanceMethod yX0_valueSeenAt ∈ kWs ∧ Cond.selects RX0 yX0_valueSeenAt yX0_valueSeenAt ∈ kWs ∧ Cond.initialized RX0 ∈ kWs := ⟨kWs_of 284 rfl rfl, kWs_of 282 (by decide +kernel) rfl, kWs_of 283 (by decide +kernel) rfl, kWs_of 3 (by decide +kernel) rfl⟩
set_option maxRecDepth 100000 in
theorem mw_X4_hasConflict : Cond.code yX4_hasConflict cX4_hasConflict 3 (some .boolean) ∈ kWs ∧ Cond.instanceMethod yX4_hasConflict ∈ kWs ∧ Cond.selects RX4 yX4_hasConflict yX4_hasConflict ∈ kWs ∧ Cond.initialized RX4 ∈ kWs := ⟨kWs_of 289 rfl rfl, kWs_of 287 (by decide +kernel) rfl, kWs_of 288 (by decide +kernel) rfl, kWs_of 2 (by decide +kernel) rfl⟩
set_option maxRecDepth 100000 in
theorem mw_X4_skewsOf : Cond.code yX4_skewsOf cX4_skewsOf 4 (some .int) ∈ kWs ∧ Cond.instanceMethod yX4_skewsOf ∈ kWs ∧ Cond.selects RX4 yX4_skewsOf yX4_skewsOf ∈ kWs ∧ Cond.initialized RX4 ∈ kWs := ⟨kWs_of 297 rfl rfl, kWs_of 295 (by decide +kernel) rfl, kWs_of 296 (by decide +kernel) rfl, kWs_of 2 (by decide +kernel) rfl⟩
set_option maxRecDepth 100000 in
theorem mw_X1_isInSkewWithLater : Cond.code yX1_isInSkewWithLater cX1_isInSkewWithLater 2 (some .boolean) ∈ kWs ∧ Cond.instanceMethod yX1_isInSkewWithLater ∈ kWs ∧ Cond.selects RX1 yX1_isInSkewWithLater yX1_isInSkewWithLater ∈ kWs ∧ Cond.initialized RX1 ∈ kWs := ⟨kWs_of 301 rfl rfl, kWs_of 299 (by decide +kernel) rfl, kWs_of 300 (by decide +kernel) rfl, kWs_of 5 (by decide +kernel) rfl⟩
set_option maxRecDepth 100000 in
theorem mw_X6_committed : Cond.code yX6_committed cX6_committed 4 (some .int) ∈ kWs ∧ Cond.instanceMethod yX6_committed ∈ kWs ∧ Cond.selects RX6 yX6_committed yX6_committed ∈ kWs ∧ Cond.initialized RX6 ∈ kWs := ⟨kWs_of 364 rfl rfl, kWs_of 362 (by decide +kernel) rfl, kWs_of 363 (by decide +kernel) rfl, kWs_of 1 (by decide +kernel) rfl⟩
set_option maxRecDepth 100000 in
theorem mw_L_seen : Cond.code yL_seen cL_seen 2 (some .int) ∈ kWs ∧ Cond.static yL_seen ∈ kWs ∧ Cond.initialized RL ∈ kWs := ⟨kWs_of 522 rfl rfl, kWs_of 521 (by decide +kernel) rfl, kWs_of 0 (by decide +kernel) rfl⟩
set_option maxRecDepth 100000 in
theorem mw_L_turn : Cond.code yL_turn cL_turn 5 (some .int) ∈ kWs ∧ Cond.static yL_turn ∈ kWs ∧ Cond.initialized RL ∈ kWs := ⟨kWs_of 367 rfl rfl, kWs_of 366 (by decide +kernel) rfl, kWs_of 0 (by decide +kernel) rfl⟩
set_option maxRecDepth 100000 in
theorem mw_L_up : Cond.code yL_up cL_up 2 (some .int) ∈ kWs ∧ Cond.static yL_up ∈ kWs ∧ Cond.initialized RL ∈ kWs := ⟨kWs_of 370 rfl rfl, kWs_of 369 (by decide +kernel) rfl, kWs_of 0 (by decide +kernel) rfl⟩
set_option maxRecDepth 100000 in
theorem mw_X6_open : Cond.code yX6_open cX6_open 2 (some .int) ∈ kWs ∧ Cond.instanceMethod yX6_open ∈ kWs ∧ Cond.selects RX6 yX6_open yX6_open ∈ kWs ∧ Cond.initialized RX6 ∈ kWs := ⟨kWs_of 375 rfl rfl, kWs_of 373 (by decide +kernel) rfl, kWs_of 374 (by decide +kernel) rfl, kWs_of 1 (by decide +kernel) rfl⟩
set_option maxRecDepth 100000 in
theorem mw_X2_record : Cond.code yX2_record cX2_record 2 none ∈ kWs ∧ Cond.instanceMethod yX2_record ∈ kWs ∧ Cond.selects RX2 yX2_record yX2_record ∈ kWs ∧ Cond.initialized RX2 ∈ kWs := ⟨kWs_of 379 rfl rfl, kWs_of 377 (by decide +kernel) rfl, kWs_of 378 (by decide +kernel) rfl, kWs_of 6 (by decide +kernel) rfl⟩
set_option maxRecDepth 100000 in
theorem mw_X2_dropOldest : Cond.code yX2_dropOldest cX2_dropOldest 3 none ∈ kWs ∧ Cond.instanceMethod yX2_dropOldest ∈ kWs ∧ Cond.selects RX2 yX2_dropOldest yX2_dropOldest ∈ kWs ∧ Cond.initialized RX2 ∈ kWs := ⟨kWs_of 383 rfl rfl, kWs_of 382 (by decide +kernel) rfl, kWs_pr 0 (by decide +kernel), kWs_of 6 (by decide +kernel) rfl⟩
set_option maxRecDepth 100000 in
theorem mw_X4_copyFrom : Cond.code yX4_copyFrom cX4_copyFrom 3 none ∈ kWs ∧ Cond.instanceMethod yX4_copyFrom ∈ kWs ∧ Cond.selects RX4 yX4_copyFrom yX4_copyFrom ∈ kWs ∧ Cond.initialized RX4 ∈ kWs := ⟨kWs_of 387 rfl rfl, kWs_of 385 (by decide +kernel) rfl, kWs_of 386 (by decide +kernel) rfl, kWs_of 2 (by decide +kernel) rfl⟩
set_option maxRecDepth 100000 in
theorem mw_X0_copyFrom : Cond.code yX0_copyFrom cX0_copyFrom 2 none ∈ kWs ∧ Cond.instanceMethod yX0_copyFrom ∈ kWs ∧ Cond.selects RX0 yX0_copyFrom yX0_copyFrom ∈ kWs ∧ Cond.initialized RX0 ∈ kWs := ⟨kWs_of 391 rfl rfl, kWs_of 389 (by decide +kernel) rfl, kWs_of 390 (by decide +kernel) rfl, kWs_of 3 (by decide +kernel) rfl⟩
set_option maxRecDepth 100000 in
theorem mw_X3_copyFrom : Cond.code yX3_copyFrom cX3_copyFrom 2 none ∈ kWs ∧ Cond.instanceMethod yX3_copyFrom ∈ kWs ∧ Cond.selects RX3 yX3_copyFrom yX3_copyFrom ∈ kWs ∧ Cond.initialized RX3 ∈ kWs := ⟨kWs_of 398 rfl rfl, kWs_of 396 (by decide +kernel) rfl, kWs_of 397 (by decide +kernel) rfl, kWs_of 4 (by decide +kernel) rfl⟩
set_option maxRecDepth 100000 in
theorem mw_X1_copyFrom : Cond.code yX1_copyFrom cX1_copyFrom 2 none ∈ kWs ∧ Cond.instanceMethod yX1_copyFrom ∈ kWs ∧ Cond.selects RX1 yX1_copyFrom yX1_copyFrom ∈ kWs ∧ Cond.initialized RX1 ∈ kWs := ⟨kWs_of 403 rfl rfl, kWs_of 401 (by decide +kernel) rfl, kWs_of 402 (by decide +kernel) rfl, kWs_of 5 (by decide +kernel) rfl⟩
set_option maxRecDepth 100000 in
theorem mw_X4_addReader : Cond.code yX4_addReader cX4_addReader 3 (some .int) ∈ kWs ∧ Cond.instanceMethod yX4_addReader ∈ kWs ∧ Cond.selects RX4 yX4_addReader yX4_addReader ∈ kWs ∧ Cond.initialized RX4 ∈ kWs := ⟨kWs_of 407 rfl rfl, kWs_of 405 (by decide +kernel) rfl, kWs_of 406 (by decide +kernel) rfl, kWs_of 2 (by decide +kernel) rfl⟩
set_option maxRecDepth 100000 in
theorem mw_X3_begin : Cond.code yX3_begin cX3_begin 3 none ∈ kWs ∧ Cond.instanceMethod yX3_begin ∈ kWs ∧ Cond.selects RX3 yX3_begin yX3_begin ∈ kWs ∧ Cond.initialized RX3 ∈ kWs := ⟨kWs_of 411 rfl rfl, kWs_of 409 (by decide +kernel) rfl, kWs_of 410 (by decide +kernel) rfl, kWs_of 4 (by decide +kernel) rfl⟩
set_option maxRecDepth 100000 in
theorem mw_X6_pay : Cond.code yX6_pay cX6_pay 4 (some .int) ∈ kWs ∧ Cond.instanceMethod yX6_pay ∈ kWs ∧ Cond.selects RX6 yX6_pay yX6_pay ∈ kWs ∧ Cond.initialized RX6 ∈ kWs := ⟨kWs_of 415 rfl rfl, kWs_of 413 (by decide +kernel) rfl, kWs_of 414 (by decide +kernel) rfl, kWs_of 1 (by decide +kernel) rfl⟩
set_option maxRecDepth 100000 in
theorem mw_X6_widow : Cond.code yX6_widow cX6_widow 5 (some .int) ∈ kWs ∧ Cond.instanceMethod yX6_widow ∈ kWs ∧ Cond.selects RX6 yX6_widow yX6_widow ∈ kWs ∧ Cond.initialized RX6 ∈ kWs := ⟨kWs_of 419 rfl rfl, kWs_of 417 (by decide +kernel) rfl, kWs_of 418 (by decide +kernel) rfl, kWs_of 1 (by decide +kernel) rfl⟩
set_option maxRecDepth 100000 in
theorem mw_X6_close : Cond.code yX6_close cX6_close 3 (some .int) ∈ kWs ∧ Cond.instanceMethod yX6_close ∈ kWs ∧ Cond.selects RX6 yX6_close yX6_close ∈ kWs ∧ Cond.initialized RX6 ∈ kWs := ⟨kWs_of 423 rfl rfl, kWs_of 421 (by decide +kernel) rfl, kWs_of 422 (by decide +kernel) rfl, kWs_of 1 (by decide +kernel) rfl⟩
set_option maxRecDepth 100000 in
theorem mw_X4_removeUnseen : Cond.code yX4_removeUnseen cX4_removeUnseen 3 (some .int) ∈ kWs ∧ Cond.instanceMethod yX4_removeUnseen ∈ kWs ∧ Cond.selects RX4 yX4_removeUnseen yX4_removeUnseen ∈ kWs ∧ Cond.initialized RX4 ∈ kWs := ⟨kWs_of 427 rfl rfl, kWs_of 425 (by decide +kernel) rfl, kWs_of 426 (by decide +kernel) rfl, kWs_of 2 (by decide +kernel) rfl⟩
set_option maxRecDepth 100000 in
theorem mw_X4_placesSeen : Cond.code yX4_placesSeen cX4_placesSeen 6 (some .int) ∈ kWs ∧ Cond.instanceMethod yX4_placesSeen ∈ kWs ∧ Cond.selects RX4 yX4_placesSeen yX4_placesSeen ∈ kWs ∧ Cond.initialized RX4 ∈ kWs := ⟨kWs_of 431 rfl rfl, kWs_of 429 (by decide +kernel) rfl, kWs_of 430 (by decide +kernel) rfl, kWs_of 2 (by decide +kernel) rfl⟩
set_option maxRecDepth 100000 in
theorem mw_X0_retainOld : Cond.code yX0_retainOld cX0_retainOld 4 (some .int) ∈ kWs ∧ Cond.instanceMethod yX0_retainOld ∈ kWs ∧ Cond.selects RX0 yX0_retainOld yX0_retainOld ∈ kWs ∧ Cond.initialized RX0 ∈ kWs := ⟨kWs_of 435 rfl rfl, kWs_of 433 (by decide +kernel) rfl, kWs_of 434 (by decide +kernel) rfl, kWs_of 3 (by decide +kernel) rfl⟩
set_option maxRecDepth 100000 in
theorem mw_X6_setRent : Cond.code yX6_setRent cX6_setRent 3 (some .int) ∈ kWs ∧ Cond.instanceMethod yX6_setRent ∈ kWs ∧ Cond.selects RX6 yX6_setRent yX6_setRent ∈ kWs ∧ Cond.initialized RX6 ∈ kWs := ⟨kWs_of 439 rfl rfl, kWs_of 437 (by decide +kernel) rfl, kWs_of 438 (by decide +kernel) rfl, kWs_of 1 (by decide +kernel) rfl⟩
set_option maxRecDepth 100000 in
theorem mw_X6_forbidSkew : Cond.code yX6_forbidSkew cX6_forbidSkew 2 (some .int) ∈ kWs ∧ Cond.instanceMethod yX6_forbidSkew ∈ kWs ∧ Cond.selects RX6 yX6_forbidSkew yX6_forbidSkew ∈ kWs ∧ Cond.initialized RX6 ∈ kWs := ⟨kWs_of 443 rfl rfl, kWs_of 441 (by decide +kernel) rfl, kWs_of 442 (by decide +kernel) rfl, kWs_of 1 (by decide +kernel) rfl⟩
set_option maxRecDepth 100000 in
theorem mw_X6_tick : Cond.code yX6_tick cX6_tick 3 (some .int) ∈ kWs ∧ Cond.instanceMethod yX6_tick ∈ kWs ∧ Cond.selects RX6 yX6_tick yX6_tick ∈ kWs ∧ Cond.initialized RX6 ∈ kWs := ⟨kWs_of 447 rfl rfl, kWs_of 445 (by decide +kernel) rfl, kWs_of 446 (by decide +kernel) rfl, kWs_of 1 (by decide +kernel) rfl⟩
set_option maxRecDepth 100000 in
theorem mw_X4_letTicksPass : Cond.code yX4_letTicksPass cX4_letTicksPass 7 none ∈ kWs ∧ Cond.instanceMethod yX4_letTicksPass ∈ kWs ∧ Cond.selects RX4 yX4_letTicksPass yX4_letTicksPass ∈ kWs ∧ Cond.initialized RX4 ∈ kWs := ⟨kWs_of 451 rfl rfl, kWs_of 449 (by decide +kernel) rfl, kWs_of 450 (by decide +kernel) rfl, kWs_of 2 (by decide +kernel) rfl⟩
set_option maxRecDepth 100000 in
theorem mw_X4_tellDues : Cond.code yX4_tellDues cX4_tellDues 2 none ∈ kWs ∧ Cond.instanceMethod yX4_tellDues ∈ kWs ∧ Cond.selects RX4 yX4_tellDues yX4_tellDues ∈ kWs ∧ Cond.initialized RX4 ∈ kWs := ⟨kWs_of 455 rfl rfl, kWs_of 453 (by decide +kernel) rfl, kWs_of 454 (by decide +kernel) rfl, kWs_of 2 (by decide +kernel) rfl⟩
set_option maxRecDepth 100000 in
theorem mw_X4_takeDues : Cond.code yX4_takeDues cX4_takeDues 4 (some .boolean) ∈ kWs ∧ Cond.instanceMethod yX4_takeDues ∈ kWs ∧ Cond.selects RX4 yX4_takeDues yX4_takeDues ∈ kWs ∧ Cond.initialized RX4 ∈ kWs := ⟨kWs_of 460 rfl rfl, kWs_of 458 (by decide +kernel) rfl, kWs_of 459 (by decide +kernel) rfl, kWs_of 2 (by decide +kernel) rfl⟩
set_option maxRecDepth 100000 in
theorem mw_X4_shortenTerms : Cond.code yX4_shortenTerms cX4_shortenTerms 4 (some .boolean) ∈ kWs ∧ Cond.instanceMethod yX4_shortenTerms ∈ kWs ∧ Cond.selects RX4 yX4_shortenTerms yX4_shortenTerms ∈ kWs ∧ Cond.initialized RX4 ∈ kWs := ⟨kWs_of 464 rfl rfl, kWs_of 462 (by decide +kernel) rfl, kWs_of 463 (by decide +kernel) rfl, kWs_of 2 (by decide +kernel) rfl⟩
set_option maxRecDepth 100000 in
theorem mw_X6_read : Cond.code yX6_read cX6_read 4 (some .int) ∈ kWs ∧ Cond.instanceMethod yX6_read ∈ kWs ∧ Cond.selects RX6 yX6_read yX6_read ∈ kWs ∧ Cond.initialized RX6 ∈ kWs := ⟨kWs_of 470 rfl rfl, kWs_of 468 (by decide +kernel) rfl, kWs_of 469 (by decide +kernel) rfl, kWs_of 1 (by decide +kernel) rfl⟩
set_option maxRecDepth 100000 in
theorem mw_X6_write : Cond.code yX6_write cX6_write 5 (some .int) ∈ kWs ∧ Cond.instanceMethod yX6_write ∈ kWs ∧ Cond.selects RX6 yX6_write yX6_write ∈ kWs ∧ Cond.initialized RX6 ∈ kWs := ⟨kWs_of 476 rfl rfl, kWs_of 474 (by decide +kernel) rfl, kWs_of 475 (by decide +kernel) rfl, kWs_of 1 (by decide +kernel) rfl⟩
set_option maxRecDepth 100000 in
theorem mw_X3_putWrite : Cond.code yX3_putWrite cX3_putWrite 3 none ∈ kWs ∧ Cond.instanceMethod yX3_putWrite ∈ kWs ∧ Cond.selects RX3 yX3_putWrite yX3_putWrite ∈ kWs ∧ Cond.initialized RX3 ∈ kWs := ⟨kWs_of 480 rfl rfl, kWs_of 478 (by decide +kernel) rfl, kWs_of 479 (by decide +kernel) rfl, kWs_of 4 (by decide +kernel) rfl⟩
set_option maxRecDepth 100000 in
theorem mw_X3_numberOfWrites : Cond.code yX3_numberOfWrites cX3_numberOfWrites 1 (some .int) ∈ kWs ∧ Cond.instanceMethod yX3_numberOfWrites ∈ kWs ∧ Cond.selects RX3 yX3_numberOfWrites yX3_numberOfWrites ∈ kWs ∧ Cond.initialized RX3 ∈ kWs := ⟨kWs_of 484 rfl rfl, kWs_of 482 (by decide +kernel) rfl, kWs_of 483 (by decide +kernel) rfl, kWs_of 4 (by decide +kernel) rfl⟩
set_option maxRecDepth 100000 in
theorem mw_J6_bitCount_0f7a4 : Cond.code yJ6_bitCount_0f7a4 cJ6_bitCount_0f7a4 1 (some .int) ∈ kWs ∧ Cond.static yJ6_bitCount_0f7a4 ∈ kWs ∧ Cond.initialized RJ6 ∈ kWs := ⟨kWs_of 487 rfl rfl, kWs_of 486 (by decide +kernel) rfl, kWs_of 9 (by decide +kernel) rfl⟩
set_option maxRecDepth 100000 in
theorem mw_X6_commit : Cond.code yX6_commit cX6_commit 3 (some .int) ∈ kWs ∧ Cond.instanceMethod yX6_commit ∈ kWs ∧ Cond.selects RX6 yX6_commit yX6_commit ∈ kWs ∧ Cond.initialized RX6 ∈ kWs := ⟨kWs_of 494 rfl rfl, kWs_of 492 (by decide +kernel) rfl, kWs_of 493 (by decide +kernel) rfl, kWs_of 1 (by decide +kernel) rfl⟩
set_option maxRecDepth 100000 in
theorem mw_X4_oldVersionsWithout : Cond.code yX4_oldVersionsWithout cX4_oldVersionsWithout 6 (some .int) ∈ kWs ∧ Cond.instanceMethod yX4_oldVersionsWithout ∈ kWs ∧ Cond.selects RX4 yX4_oldVersionsWithout yX4_oldVersionsWithout ∈ kWs ∧ Cond.initialized RX4 ∈ kWs := ⟨kWs_of 498 rfl rfl, kWs_of 496 (by decide +kernel) rfl, kWs_of 497 (by decide +kernel) rfl, kWs_of 2 (by decide +kernel) rfl⟩
set_option maxRecDepth 100000 in
theorem mw_X4_land : Cond.code yX4_land cX4_land 3 none ∈ kWs ∧ Cond.instanceMethod yX4_land ∈ kWs ∧ Cond.selects RX4 yX4_land yX4_land ∈ kWs ∧ Cond.initialized RX4 ∈ kWs := ⟨kWs_of 503 rfl rfl, kWs_of 501 (by decide +kernel) rfl, kWs_of 502 (by decide +kernel) rfl, kWs_of 2 (by decide +kernel) rfl⟩
set_option maxRecDepth 100000 in
theorem mw_X4_noteCommit : Cond.code yX4_noteCommit cX4_noteCommit 4 none ∈ kWs ∧ Cond.instanceMethod yX4_noteCommit ∈ kWs ∧ Cond.selects RX4 yX4_noteCommit yX4_noteCommit ∈ kWs ∧ Cond.initialized RX4 ∈ kWs := ⟨kWs_of 507 rfl rfl, kWs_of 506 (by decide +kernel) rfl, kWs_pr 1 (by decide +kernel), kWs_of 2 (by decide +kernel) rfl⟩
set_option maxRecDepth 100000 in
theorem mw_X4_pushWrites : Cond.code yX4_pushWrites cX4_pushWrites 3 none ∈ kWs ∧ Cond.instanceMethod yX4_pushWrites ∈ kWs ∧ Cond.selects RX4 yX4_pushWrites yX4_pushWrites ∈ kWs ∧ Cond.initialized RX4 ∈ kWs := ⟨kWs_of 512 rfl rfl, kWs_of 511 (by decide +kernel) rfl, kWs_pr 2 (by decide +kernel), kWs_of 2 (by decide +kernel) rfl⟩
set_option maxRecDepth 100000 in
theorem mw_X0_push : Cond.code yX0_push cX0_push 3 none ∈ kWs ∧ Cond.instanceMethod yX0_push ∈ kWs ∧ Cond.selects RX0 yX0_push yX0_push ∈ kWs ∧ Cond.initialized RX0 ∈ kWs := ⟨kWs_of 516 rfl rfl, kWs_of 514 (by decide +kernel) rfl, kWs_of 515 (by decide +kernel) rfl, kWs_of 3 (by decide +kernel) rfl⟩
set_option maxRecDepth 100000 in
theorem mw_L_any : Cond.code yL_any cL_any 3 (some .int) ∈ kWs ∧ Cond.static yL_any ∈ kWs ∧ Cond.initialized RL ∈ kWs := ⟨kWs_of 519 rfl rfl, kWs_of 518 (by decide +kernel) rfl, kWs_of 0 (by decide +kernel) rfl⟩
set_option maxRecDepth 100000 in
theorem mw_L_putBy : Cond.code yL_putBy cL_putBy 4 (some .long) ∈ kWs ∧ Cond.static yL_putBy ∈ kWs ∧ Cond.initialized RL ∈ kWs := ⟨kWs_of 531 rfl rfl, kWs_of 530 (by decide +kernel) rfl, kWs_of 0 (by decide +kernel) rfl⟩
set_option maxRecDepth 100000 in
theorem mw_L_isUndone : Cond.code yL_isUndone cL_isUndone 10 (some .boolean) ∈ kWs ∧ Cond.static yL_isUndone ∈ kWs ∧ Cond.initialized RL ∈ kWs := ⟨kWs_of 534 rfl rfl, kWs_of 533 (by decide +kernel) rfl, kWs_of 0 (by decide +kernel) rfl⟩
set_option maxRecDepth 100000 in
theorem mw_X6_undo : Cond.code yX6_undo cX6_undo 1 (some .int) ∈ kWs ∧ Cond.instanceMethod yX6_undo ∈ kWs ∧ Cond.selects RX6 yX6_undo yX6_undo ∈ kWs ∧ Cond.initialized RX6 ∈ kWs := ⟨kWs_of 538 rfl rfl, kWs_of 536 (by decide +kernel) rfl, kWs_of 537 (by decide +kernel) rfl, kWs_of 1 (by decide +kernel) rfl⟩
set_option maxRecDepth 100000 in
theorem mw_X2_bringBack : Cond.code yX2_bringBack cX2_bringBack 2 none ∈ kWs ∧ Cond.instanceMethod yX2_bringBack ∈ kWs ∧ Cond.selects RX2 yX2_bringBack yX2_bringBack ∈ kWs ∧ Cond.initialized RX2 ∈ kWs := ⟨kWs_of 542 rfl rfl, kWs_of 540 (by decide +kernel) rfl, kWs_of 541 (by decide +kernel) rfl, kWs_of 6 (by decide +kernel) rfl⟩
set_option maxRecDepth 100000 in
theorem mw_L_areVersions : Cond.code yL_areVersions cL_areVersions 6 (some .boolean) ∈ kWs ∧ Cond.static yL_areVersions ∈ kWs ∧ Cond.initialized RL ∈ kWs := ⟨kWs_of 525 rfl rfl, kWs_of 524 (by decide +kernel) rfl, kWs_of 0 (by decide +kernel) rfl⟩
set_option maxRecDepth 100000 in
theorem mw_L_coins : Cond.code yL_coins cL_coins 6 (some .long) ∈ kWs ∧ Cond.static yL_coins ∈ kWs ∧ Cond.initialized RL ∈ kWs := ⟨kWs_of 528 rfl rfl, kWs_of 527 (by decide +kernel) rfl, kWs_of 0 (by decide +kernel) rfl⟩
end
section
/-! The one world of the class and of the law's own row (number 0; 1 to 6 stand for nothing): objects have numbers, a cell's ints are a row; rows over it. -/
def kN : Nat := 1141
/-- the numbers that stand for objects, and their places in the world -/
def kZ (k : Nat) : Prop := k < kN ∧ (k = 0 ∨ 7 ≤ k)
def kpos (k : Nat) : Nat := if k = 0 then 0 else k - 6
def kof (i : Nat) : Nat := if i = 0 then 0 else i + 6
theorem kof_pos {k : Nat} (h : kZ k) : kof (kpos k) = k := by
  obtain ⟨-, h⟩ := h
  unfold kof kpos
  by_cases z : k = 0
  · rw [if_pos z, if_pos rfl, z]
  · rw [if_neg z, if_neg (by omega)]; omega
theorem kZ_of {i : Nat} (h : i < 1135) : kZ (kof i) ∧ kpos (kof i) = i := by
  unfold kZ kof kpos kN
  by_cases z : i = 0
  · subst z; simp
  · rw [if_neg z, if_neg (by omega)]; omega
theorem kpos_lt {k : Nat} (h : kZ k) : kpos k < 1135 := by
  obtain ⟨h1, h⟩ := h
  unfold kN at h1
  unfold kpos
  split <;> omega
def sB (j : Nat) : Nat := 14 + 161 * j
def sC (j : Nat) : Nat := 14 + 161 * j + 1
def sR (j : Nat) : Nat := 14 + 161 * j + 2
def sM (j : Nat) : Nat := 14 + 161 * j + 3
def sD (j : Nat) : Nat := 14 + 161 * j + 4
def cB (j c : Nat) : Nat := 14 + 161 * j + 5 + 3 * c
def cV (j c : Nat) : Nat := 14 + 161 * j + 6 + 3 * c
def cM (j c : Nat) : Nat := 14 + 161 * j + 7 + 3 * c
def rN (j r : Nat) : Nat := 14 + 161 * j + 41 + 2 * r
def rW (j r : Nat) : Nat := 14 + 161 * j + 42 + 2 * r
def mC (j q : Nat) : Nat := 14 + 161 * j + 121 + q
/-- the first objects: the law's row, and the class's own single ones -/
def kE0 (τ : Nat → ClassId) (ad : Nat → Nat) (r : Nat → Int32) (k : Nat) : va_E :=
  match k with
  | 0 => .inl (τ 0, 40, .inl r)
  | 7 => .inr (6, [.ref (ad (sB 0)), .ref (ad (sB 1)), .ref (ad (sB 2)), .ref (ad 8), .ref (ad 10), .int (r 5)])
  | 8 => .inr (2, [.ref (ad 9), .int (r 1)])
  | 9 => .inl (τ 5, 4, .inr (.inr (.inr (.inr (fun i => some (ad (sB (r i).toNatClampNeg)))))))
  | 10 => .inr (5, [.ref (ad 11), .int (r 1), .ref (ad 12), .ref (ad 13), .int (r 4)])
  | 11 => .inl (τ 1, 60, .inl r)
  | 12 => .inl (τ 0, 16, .inl r)
  | _ => .inl (τ 0, 16, .inl r)
/-- the object o of the state j -/
def kE1 (τ : Nat → ClassId) (ad : Nat → Nat) (r : Nat → Int32) (j o : Nat) : va_E :=
  if o = 0 then .inr (4, [.ref (ad (sC j)), .ref (ad (sR j)), .ref (ad (sM j)), .int (r 3), .int (r 4), .int (r 5), .int (r 6), .int (r 7), .int (r 8), .int (r 9), .ref (ad (sD j))])
  else if o = 1 then .inl (τ 2, 12, .inr (.inr (.inr (.inr (fun i => some (ad (cB j i)))))))
  else if o = 2 then .inl (τ 3, 40, .inr (.inr (.inr (.inr (fun i => some (ad (rN j i)))))))
  else if o = 3 then .inl (τ 4, 40, .inr (.inr (.inr (.inr (fun i => some (ad (mC j i)))))))
  else if o = 4 then .inl (τ 0, 40, .inl r)
  else if o < 41 then (if (o - 5) % 3 = 0 then .inr (0, [.ref (ad (cV j ((o - 5) / 3))), .ref (ad (cM j ((o - 5) / 3))), .int (r 2)]) else .inl (τ 0, 10, .inl r))
  else if o < 121 then (if (o - 41) % 2 = 0 then .inr (3, [.ref (ad (rW j ((o - 41) / 2))), .int (r 1), .int (r 2), .int (r 3), .int (r 4), .int (r 5), .int (r 6), .int (r 7), .int (r 8)]) else .inl (τ 0, 12, .inl r))
  else .inr (1, [.int (r 0), .int (r 1), .int (r 2), .int (r 3), .int (r 4), .int (r 5)])
def kE (τ : Nat → ClassId) (ad : Nat → Nat) (r : Nat → Int32) (k : Nat) : va_E := if k < 14 then kE0 τ ad r k else kE1 τ ad r ((k - 14) / 161) ((k - 14) % 161)
def kW (τ : Nat → ClassId) (ad : Nat → Nat) (G : Nat → Nat → Int32) : va_W := (List.range 1135).map (fun i => (ad (kof i), kE τ ad (G (kof i)) (kof i)))
abbrev kT (τ : Nat → ClassId) : List (ClassId × FieldType) := [(τ 0, .int), (τ 1, .char), (τ 2, .object "RentedMoments$Cell"), (τ 3, .object "RentedMoments$Reader"), (τ 4, .object "RentedMoments$Commit"), (τ 5, .object "RentedMoments$State")]
def kInj (ad : Nat → Nat) : Prop := ∀ i j : Nat, kZ i → kZ j → ad i = ad j → i = j
def kAd (ad : Nat → Nat) : Nat → Prop := fun q => ∃ k : Nat, kZ k ∧ q = ad k
/-- one int of one row -/
def gs (G : Nat → Nat → Int32) (k f : Nat) (x : Int32) : Nat → Nat → Int32 := fun k' f' => if k' = k ∧ f' = f then x else G k' f'
theorem gs_up (G : Nat → Nat → Int32) (k f : Nat) (x : Int32) : gs G k f x k = upd (G k) f x := by
  funext f'
  by_cases h : f' = f <;> simp [gs, upd, h]
theorem gs_other {G : Nat → Nat → Int32} {k f : Nat} {x : Int32} {k' : Nat} (h : k' ≠ k) : gs G k f x k' = G k' := by
  funext f'
  simp [gs, h]
theorem kW_get {τ : Nat → ClassId} {ad : Nat → Nat} {G : Nat → Nat → Int32} {k : Nat} (h : kZ k) : (kW τ ad G)[kpos k]? = some (ad k, kE τ ad (G k) k) := by
  unfold kW
  rw [List.getElem?_map, List.getElem?_range (kpos_lt h)]
  show some (ad (kof (kpos k)), kE τ ad (G (kof (kpos k))) (kof (kpos k))) = _
  rw [kof_pos h]
theorem kW_none {τ : Nat → ClassId} {ad : Nat → Nat} {G : Nat → Nat → Int32} {i : Nat} (h : ¬ i < 1135) : (kW τ ad G)[i]? = none := List.getElem?_eq_none (by unfold kW; simp; omega)
theorem kW_set {τ : Nat → ClassId} {ad : Nat → Nat} {G G' : Nat → Nat → Int32} {k : Nat} {e : va_E} (h : kZ k) (he : e = kE τ ad (G' k) k) (ho : ∀ i, i ≠ k → G' i = G i) : (kW τ ad G).set (kpos k) (ad k, e) = kW τ ad G' := by
  apply List.ext_getElem?
  intro i
  by_cases hik : i = kpos k
  · subst hik
    rw [kW_get h, List.getElem?_set_self (by unfold kW; simpa using kpos_lt h), he]
  · rw [List.getElem?_set_ne (Ne.symm hik)]
    by_cases hi : i < 1135
    · obtain ⟨h1, h2⟩ := kZ_of hi
      have hne : kof i ≠ k := fun e => hik (by rw [← e, h2])
      have q1 := kW_get (τ := τ) (ad := ad) (G := G) h1
      have q2 := kW_get (τ := τ) (ad := ad) (G := G') h1
      rw [h2] at q1 q2
      rw [q1, q2, ho _ hne]
    · rw [kW_none hi, kW_none hi]
theorem kW_D {τ : Nat → ClassId} {ad : Nat → Nat} {G : Nat → Nat → Int32} (hI : kInj ad) : va_D (kAd ad) (kW τ ad G) := by
  have key : ∀ (i : Nat) (p : Nat × va_E), (kW τ ad G)[i]? = some p → i < 1135 ∧ p.1 = ad (kof i) := by
    intro i p hp
    by_cases hi : i < 1135
    · obtain ⟨h1, h2⟩ := kZ_of hi
      have q1 := kW_get (τ := τ) (ad := ad) (G := G) h1
      rw [h2, hp] at q1
      cases q1
      exact ⟨hi, rfl⟩
    · rw [kW_none hi] at hp
      cases hp
  refine ⟨fun i j p q hp hq hpq => ?_, fun k q hk => ?_⟩
  · obtain ⟨h1, h2⟩ := key i p hp
    obtain ⟨h3, h4⟩ := key j q hq
    have e := hI (kof i) (kof j) (kZ_of h1).1 (kZ_of h3).1 (by rw [← h2, ← h4]; exact hpq)
    rw [← (kZ_of h1).2, ← (kZ_of h3).2, e]
  · obtain ⟨h1, h2⟩ := key k q hk
    exact ⟨kof k, (kZ_of h1).1, h2⟩
/-- the object k is of a class: its fields, of its row -/
def kO (τ : Nat → ClassId) (ad : Nat → Nat) (k ci : Nat) (C : String) (T : u_T) (N : Nat) (F : (Nat → Int32) → List Value) : Prop := kZ k ∧ vwCl[ci]? = some (C, T, N) ∧ ∀ r, kE τ ad r k = .inr (ci, F r)
/-- the object k is an array of numbers -/
def kAr (τ : Nat → ClassId) (ad : Nat → Nat) (k t : Nat) (ty : FieldType) (n : Nat) : Prop := kZ k ∧ n < 65536 ∧ ∃ cA, (kT τ)[t]? = some (cA, ty) ∧ ∀ r, kE τ ad r k = .inl (cA, n, .inl r)
/-- the object k is an array of references -/
def kQr (τ : Nat → ClassId) (ad : Nat → Nat) (k t : Nat) (C : String) (n : Nat) (f : (Nat → Int32) → Nat → Nat) : Prop := kZ k ∧ n < 65536 ∧ ∃ cA, (kT τ)[t]? = some (cA, .object C) ∧ ∀ r, kE τ ad r k = .inl (cA, n, .inr (.inr (.inr (.inr (fun i => some (ad (f r i)))))))
theorem kE_j {τ : Nat → ClassId} {ad : Nat → Nat} {r : Nat → Int32} {j o : Nat} (ho : o < 161) : kE τ ad r (14 + 161 * j + o) = kE1 τ ad r j o := by
  unfold kE
  rw [if_neg (by omega), show (14 + 161 * j + o - 14) / 161 = j by omega, show (14 + 161 * j + o - 14) % 161 = o by omega]
theorem kN_j {j o : Nat} (hj : j < 7) (ho : o < 161) : kZ (14 + 161 * j + o) := by unfold kZ kN; omega
section KOBJ
variable {τ : Nat → ClassId} {ad : Nat → Nat} {j c r q : Nat}
theorem oS (hj : j < 7) : kO τ ad (sB j) 4 RX4 TX4 11 (fun r => [.ref (ad (sC j)), .ref (ad (sR j)), .ref (ad (sM j)), .int (r 3), .int (r 4), .int (r 5), .int (r 6), .int (r 7), .int (r 8), .int (r 9), .ref (ad (sD j))]) :=
  ⟨kN_j (o := 0) hj (by omega), rfl, fun r => (kE_j (o := 0) (by omega)).trans (by unfold kE1; rw [if_pos rfl])⟩
theorem qC (hj : j < 7) : kQr τ ad (sC j) 2 "RentedMoments$Cell" 12 (fun _ i => cB j i) :=
  ⟨kN_j (o := 1) hj (by omega), by omega, τ 2, rfl, fun r => (kE_j (o := 1) (by omega)).trans (by unfold kE1; rw [if_neg (by omega), if_pos rfl])⟩
theorem qR (hj : j < 7) : kQr τ ad (sR j) 3 "RentedMoments$Reader" 40 (fun _ i => rN j i) :=
  ⟨kN_j (o := 2) hj (by omega), by omega, τ 3, rfl, fun r => (kE_j (o := 2) (by omega)).trans (by unfold kE1; rw [if_neg (by omega), if_neg (by omega), if_pos rfl])⟩
theorem qM (hj : j < 7) : kQr τ ad (sM j) 4 "RentedMoments$Commit" 40 (fun _ i => mC j i) :=
  ⟨kN_j (o := 3) hj (by omega), by omega, τ 4, rfl, fun r => (kE_j (o := 3) (by omega)).trans (by unfold kE1; rw [if_neg (by omega), if_neg (by omega), if_neg (by omega), if_pos rfl])⟩
theorem aD (hj : j < 7) : kAr τ ad (sD j) 0 .int 40 :=
  ⟨kN_j (o := 4) hj (by omega), by omega, τ 0, rfl, fun r => (kE_j (o := 4) (by omega)).trans (by unfold kE1; rw [if_neg (by omega), if_neg (by omega), if_neg (by omega), if_neg (by omega), if_pos rfl])⟩
theorem kE_c {r : Nat → Int32} {o : Nat} (h1 : 4 < o) (h2 : o < 41) : kE τ ad r (14 + 161 * j + o) = (if (o - 5) % 3 = 0 then .inr (0, [.ref (ad (cV j ((o - 5) / 3))), .ref (ad (cM j ((o - 5) / 3))), .int (r 2)]) else .inl (τ 0, 10, .inl r)) :=
  (kE_j (by omega)).trans (by unfold kE1; rw [if_neg (by omega), if_neg (by omega), if_neg (by omega), if_neg (by omega), if_neg (by omega), if_pos h2])
theorem kE_r {r : Nat → Int32} {o : Nat} (h1 : 40 < o) (h2 : o < 121) : kE τ ad r (14 + 161 * j + o) = (if (o - 41) % 2 = 0 then .inr (3, [.ref (ad (rW j ((o - 41) / 2))), .int (r 1), .int (r 2), .int (r 3), .int (r 4), .int (r 5), .int (r 6), .int (r 7), .int (r 8)]) else .inl (τ 0, 12, .inl r)) :=
  (kE_j (by omega)).trans (by unfold kE1; rw [if_neg (by omega), if_neg (by omega), if_neg (by omega), if_neg (by omega), if_neg (by omega), if_neg (by omega), if_pos h2])
theorem oC (hj : j < 7) (hc : c < 12) : kO τ ad (cB j c) 0 RX0 TX0 3 (fun r => [.ref (ad (cV j c)), .ref (ad (cM j c)), .int (r 2)]) := by
  have h := kN_j (o := 5 + 3 * c) hj (by omega)
  refine ⟨by unfold kZ kN at h ⊢; unfold cB; omega, rfl, fun r => ?_⟩
  rw [show cB j c = 14 + 161 * j + (5 + 3 * c) by unfold cB; omega, kE_c (by omega) (by omega), if_pos (by omega), show (5 + 3 * c - 5) / 3 = c by omega]
theorem aV (hj : j < 7) (hc : c < 12) : kAr τ ad (cV j c) 0 .int 10 := by
  have h := kN_j (o := 6 + 3 * c) hj (by omega)
  refine ⟨by unfold kZ kN at h ⊢; unfold cV; omega, by omega, τ 0, rfl, fun r => ?_⟩
  rw [show cV j c = 14 + 161 * j + (6 + 3 * c) by unfold cV; omega, kE_c (by omega) (by omega), if_neg (by omega)]
theorem aM (hj : j < 7) (hc : c < 12) : kAr τ ad (cM j c) 0 .int 10 := by
  have h := kN_j (o := 7 + 3 * c) hj (by omega)
  refine ⟨by unfold kZ kN at h ⊢; unfold cM; omega, by omega, τ 0, rfl, fun r => ?_⟩
  rw [show cM j c = 14 + 161 * j + (7 + 3 * c) by unfold cM; omega, kE_c (by omega) (by omega), if_neg (by omega)]
theorem oR (hj : j < 7) (hr : r < 40) : kO τ ad (rN j r) 3 RX3 TX3 9 (fun q => [.ref (ad (rW j r)), .int (q 1), .int (q 2), .int (q 3), .int (q 4), .int (q 5), .int (q 6), .int (q 7), .int (q 8)]) := by
  have h := kN_j (o := 41 + 2 * r) hj (by omega)
  refine ⟨by unfold kZ kN at h ⊢; unfold rN; omega, rfl, fun q => ?_⟩
  rw [show rN j r = 14 + 161 * j + (41 + 2 * r) by unfold rN; omega, kE_r (by omega) (by omega), if_pos (by omega), show (41 + 2 * r - 41) / 2 = r by omega]
theorem aW (hj : j < 7) (hr : r < 40) : kAr τ ad (rW j r) 0 .int 12 := by
  have h := kN_j (o := 42 + 2 * r) hj (by omega)
  refine ⟨by unfold kZ kN at h ⊢; unfold rW; omega, by omega, τ 0, rfl, fun q => ?_⟩
  rw [show rW j r = 14 + 161 * j + (42 + 2 * r) by unfold rW; omega, kE_r (by omega) (by omega), if_neg (by omega)]
theorem oM (hj : j < 7) (hq : q < 40) : kO τ ad (mC j q) 1 RX1 TX1 6 (fun r => [.int (r 0), .int (r 1), .int (r 2), .int (r 3), .int (r 4), .int (r 5)]) := by
  have h := kN_j (o := 121 + q) hj (by omega)
  refine ⟨by unfold kZ kN at h ⊢; unfold mC; omega, rfl, fun r => ?_⟩
  rw [show mC j q = 14 + 161 * j + (121 + q) by unfold mC; omega, kE_j (by omega)]
  unfold kE1
  rw [if_neg (by omega), if_neg (by omega), if_neg (by omega), if_neg (by omega), if_neg (by omega), if_neg (by omega), if_neg (by omega)]
theorem oX : kO τ ad 7 6 RX6 TX6 6 (fun r => [.ref (ad (sB 0)), .ref (ad (sB 1)), .ref (ad (sB 2)), .ref (ad 8), .ref (ad 10), .int (r 5)]) := ⟨by unfold kZ kN; omega, rfl, fun _ => rfl⟩
theorem oH : kO τ ad 8 2 RX2 TX2 2 (fun r => [.ref (ad 9), .int (r 1)]) := ⟨by unfold kZ kN; omega, rfl, fun _ => rfl⟩
theorem qH : kQr τ ad 9 5 "RentedMoments$State" 4 (fun r i => sB (r i).toNatClampNeg) := ⟨by unfold kZ kN; omega, by omega, τ 5, rfl, fun _ => rfl⟩
theorem oT : kO τ ad 10 5 RX5 TX5 5 (fun r => [.ref (ad 11), .int (r 1), .ref (ad 12), .ref (ad 13), .int (r 4)]) := ⟨by unfold kZ kN; omega, rfl, fun _ => rfl⟩
theorem aT : kAr τ ad 11 1 .char 60 := ⟨by unfold kZ kN; omega, by omega, τ 1, rfl, fun _ => rfl⟩
theorem aTc : kAr τ ad 12 0 .int 16 := ⟨by unfold kZ kN; omega, by omega, τ 0, rfl, fun _ => rfl⟩
theorem aTv : kAr τ ad 13 0 .int 16 := ⟨by unfold kZ kN; omega, by omega, τ 0, rfl, fun _ => rfl⟩
theorem aS : kAr τ ad 0 0 .int 40 := ⟨by unfold kZ kN; omega, by omega, τ 0, rfl, fun _ => rfl⟩
end KOBJ
end
section
/-! Rows over the one world. -/
theorem goodIn_app {big a b : List Cond} (ha : GoodIn big a) (hb : GoodIn big b) : GoodIn big (a ++ b) := fun w h => (List.mem_append.mp h).elim (ha w) (hb w)
/-- where a field's constant stands: the field f of the class C; linked plainly, or as a nest mate's -/
def kL (own : String) (index : Nat) (C : String) (T : u_T) (N : Nat) (ty : Nat → FieldType) (f : Nat) : Prop :=
  f < N ∧ (∀ w ∈ u_ws C T N, w ∈ kWs) ∧ (∀ k, k < N → parseFieldDescriptor (T k).2.2.1 = some (ty k)) ∧ (∀ a, a < N → ∀ b, b < N → a ≠ b → (T a).2.1 ≠ (T b).2.1) ∧ (T f).1 = C ∧
  ((Cond.fieldLink own index C (T f).2.1 (T f).2.2.1) ∈ kWs ∨ ∃ host, (Cond.fieldLinkNest own index C (T f).2.1 (T f).2.2.1 host) ∈ kNw)
/-- what stays the same in a method's walk -/
def kC (p : Program) (s : State) (m : MethodId) (c : Code) (cc : ByteArray) (nL : Nat) (args : Array Value) (own : String) (D : va_G) (τ : Nat → ClassId) : Prop :=
  p.tables.exec = Jvm.exec ∧ c.code = cc ∧ c.maxLocals = nL ∧ s.vm.findClass own = some m.cls ∧ (∀ w ∈ kWs, w.before args s = true) ∧ va_K D vwCl (kT τ) s ∧ ∀ w ∈ kNw, va_Nw w s
/-- the world at a state -/
def kI (D : va_G) (τ : Nat → ClassId) (ad : Nat → Nat) (G : Nat → Nat → Int32) (U : State) : Prop := va_P D vwCl (kW τ ad G) U.heap ∧ va_K D vwCl (kT τ) U ∧ ∀ w ∈ kNw, va_Nw w U
def kNest : Cond → Bool
  | .fieldLinkNest _ _ _ _ _ _ => true
  | .methodLinkNest _ _ _ _ => true
  | _ => false
theorem kNw_nest : kNw.all kNest = true := by decide +kernel
theorem kNw_warm {s U : State} (hW : s.WarmedH U.vm) (h : ∀ w ∈ kNw, va_Nw w s) : ∀ w ∈ kNw, va_Nw w U := by
  intro w hw
  have h1 := List.all_eq_true.mp kNw_nest w hw
  have h2 := h w hw
  cases w <;> first | (exact va_Nw.warmF hW h2) | (exact va_Nw.warmM hW h2) | (cases h1)
theorem kNw_vm {s U : State} (hv : s.vm = U.vm) (h : ∀ w ∈ kNw, va_Nw w s) : ∀ w ∈ kNw, va_Nw w U := by
  intro w hw
  have h1 := List.all_eq_true.mp kNw_nest w hw
  have h2 := h w hw
  cases w <;> first | (exact va_Nw.same rfl hv h2) | (cases h1)
/-- contracts: an answer that is an int; none -/
def kM (l : Launch) (y : MethodName) (bytes : ByteArray) (maxL : Nat) (ret : Option FieldType) (rm : Room) (D : va_G) (τ : Nat → ClassId) (ad : Nat → Nat) (As : List Value) (G : Nat → Nat → Int32) (R : Int32 → (Nat → Nat → Int32) → Prop) : Prop :=
  Met l y (Cond.code y bytes maxL ret :: kWs) rm (va_Pc As (kI D τ ad G)) (va_Qi R (fun G' t => kI D τ ad G' t) (kAd ad)) 0 0 (kAd ad)
def kMv (l : Launch) (y : MethodName) (bytes : ByteArray) (maxL : Nat) (rm : Room) (D : va_G) (τ : Nat → ClassId) (ad : Nat → Nat) (As : List Value) (G : Nat → Nat → Int32) (R : (Nat → Nat → Int32) → Prop) : Prop :=
  Met l y (Cond.code y bytes maxL none :: kWs) rm (va_Pc As (kI D τ ad G)) (va_Qv R (fun G' t => kI D τ ad G' t) (kAd ad)) 0 0 (kAd ad)
/-- what a call's constant says -/
def kV (own : String) (index : Nat) (C : String) (y : MethodName) (bytes : ByteArray) (maxL : Nat) (ret : Option FieldType) (n : Nat) : Prop :=
  (Cond.methodLink own index y) ∈ kWs ∧ (Cond.instanceMethod y) ∈ kWs ∧ (Cond.selects C y y) ∈ kWs ∧ (Cond.initialized C) ∈ kWs ∧ (Cond.code y bytes maxL ret) ∈ kWs ∧ (y.cls = C ∧ y.cls ≠ "java/lang/invoke/MethodHandle" ∧ y.cls ≠ "java/lang/invoke/VarHandle" ∧ (parseMethodDescriptor y.desc).map (fun d => d.parameters.length) = some n)
def kVs (own : String) (index : Nat) (y : MethodName) (bytes : ByteArray) (maxL : Nat) (ret : Option FieldType) (n : Nat) : Prop :=
  (Cond.methodLink own index y) ∈ kWs ∧ (Cond.static y) ∈ kWs ∧ (Cond.initialized own) ∈ kWs ∧ (Cond.code y bytes maxL ret) ∈ kWs ∧ (y.cls = own ∧ y.cls ≠ "java/lang/invoke/MethodHandle" ∧ y.cls ≠ "java/lang/invoke/VarHandle" ∧ (parseMethodDescriptor y.desc).map (fun d => d.parameters.length) = some n)
def kF (rm R : Room) (maxL : Nat) : Prop := rm.frames + 1 ≤ R.frames ∧ 8 + (maxL + 11) + rm.locals ≤ R.locals ∧ rm.cells = 0 ∧ rm.slots = 0
theorem ws_ok {w : Cond} (h : w ∈ kWs) : w ∈ kWs ∧ ((w.onTables && w.keeps) = true ∨ ∃ ty, w = .arrayClass ty) := ⟨h, good_of_word (kWs_good w h)⟩
theorem ws_G {y : MethodName} {bytes : ByteArray} {maxL : Nat} {ret : Option FieldType} (h : Cond.code y bytes maxL ret ∈ kWs) : GoodIn kWs (Cond.code y bytes maxL ret :: kWs) := by
  intro w hw
  rcases List.mem_cons.mp hw with rfl | hw
  · exact ws_ok h
  · exact ws_ok hw
theorem kI_blind {D : va_G} {τ : Nat → ClassId} {ad : Nat → Nat} {G : Nat → Nat → Int32} {As : List Value} : FrameBlind (va_Pc As (kI D τ ad G)) := by
  intro a U g mk h
  obtain ⟨h0, h1, h2, h3⟩ := h
  exact ⟨h0, h1, va_K.moved (u := U) (U := U.calling g mk a) (Vm.Alike.refl U.vm) h2, kNw_vm (s := U) (U := U.calling g mk a) rfl h3⟩
theorem kI_at {D : va_G} {τ : Nat → ClassId} {ad : Nat → Nat} {G : Nat → Nat → Int32} {H : Heap} {s U : State} (hP : va_P D vwCl (kW τ ad G) H) (hK : va_K D vwCl (kT τ) s) (hn : ∀ w ∈ kNw, va_Nw w s) (hU : U.heap = H) (hW : s.WarmedH U.vm) : kI D τ ad G U := by
  subst hU
  exact ⟨hP, va_K.moved hW.alike hK, kNw_warm hW hn⟩
section KR
variable {p : Program} {l : Launch} {e : Env} {R : Room} {s : State} {m : MethodId} {args : Array Value} {below : List Frame} {meth : Method} {c : Code} {H : Heap} {locs : List Loc} {cells slots : Nat} {Q : State → Prop}
variable {cc : ByteArray} {pc : Nat} {ls : Array Slot} {rest : List Value} {D : va_G} {τ : Nat → ClassId} {ad : Nat → Nat} {G : Nat → Nat → Int32} {own : String} {nL : Nat}
/-- getfield -/
theorem kget (X : kC p s m c cc nL args own D τ) (hP : va_P D vwCl (kW τ ad G) H) {k ci : Nat} {C : String} {T : u_T} {N : Nat} {F : (Nat → Int32) → List Value} (ho : kO τ ad k ci C T N F) {index f : Nat} {ty : Nat → FieldType} (hl : kL own index C T N ty f) {v : Value} (hv : (F (G k))[f]? = some v) (hdg : decode cc pc = .ok (.getfield index, 3))
    (kk : W p l e R s m args below meth c H locs cells slots Q (F0 m (pc + 3) ls (v :: rest))) : W p l e R s m args below meth c H locs cells slots Q (F0 m pc ls (.ref (ad k) :: rest)) := by
  obtain ⟨hx, hb, -, hown, hts, hK, hnw⟩ := X
  obtain ⟨hk, hc, hE⟩ := ho
  obtain ⟨hf, hin, -, -, href, hw⟩ := hl
  have he : (kW τ ad G)[kpos k]? = some (ad k, .inr (ci, F (G k))) := (kW_get hk).trans (by rw [hE])
  rcases hw with hw | ⟨host, hw⟩
  · exact va_get hx hb hts hin hown hK hP (kpos k) he hc f hf (hts _ hw) (fun x h => by rw [href] at h; exact h) hv hdg kk
  · exact va_getN hx hb hts hin hown hK hP (kpos k) he hc f hf (va_Nw.use rfl (hnw _ hw)) (fun x h => by rw [href] at h; exact h) hv hdg kk
/-- putfield of an int -/
theorem kput (X : kC p s m c cc nL args own D τ) (hI : kInj ad) (hP : va_P D vwCl (kW τ ad G) H) (hS : va_S (kAd ad) s.heap H locs) {k ci : Nat} {C : String} {T : u_T} {N : Nat} {F : (Nat → Int32) → List Value} (ho : kO τ ad k ci C T N F) {index f : Nat} {ty : Nat → FieldType} (hl : kL own index C T N ty f) {x : Int32} (hF : ∀ r, F (upd r f x) = (F r).set f (.int x)) (hfin : (T f).2.2.2 = false) (hlen : ∀ r, f < (F r).length) (hn : narrow (ty f) (.int x) = .int x) (hfit : fits (ty f) (.int x) = true) (hdg : decode cc pc = .ok (.putfield index, 3))
    (kk : ∀ (H1 : Heap) (locs1 : List Loc), va_P D vwCl (kW τ ad (gs G k f x)) H1 → va_S (kAd ad) s.heap H1 locs1 → W p l e R s m args below meth c H1 locs1 cells slots Q (F0 m (pc + 3) ls rest)) : W p l e R s m args below meth c H locs cells slots Q (F0 m pc ls (.int x :: .ref (ad k) :: rest)) := by
  obtain ⟨hx, hb, -, hown, hts, hK, hnw⟩ := X
  obtain ⟨hk, hc, hE⟩ := ho
  obtain ⟨hf, hin, hty, hnm, href, hw⟩ := hl
  have he : (kW τ ad G)[kpos k]? = some (ad k, .inr (ci, F (G k))) := (kW_get hk).trans (by rw [hE])
  have hset : (kW τ ad G).set (kpos k) (ad k, .inr (ci, (F (G k)).set f (.int x))) = kW τ ad (gs G k f x) := kW_set hk (by rw [hE, gs_up, hF]) (fun i hi => gs_other hi)
  rcases hw with hw | ⟨host, hw⟩
  · refine va_put hx hb hts hin ty hty hnm hown hK hP (kW_D hI) hS (kpos k) he hc f hf (hts _ hw) (fun x h => by rw [href] at h; exact h) hfin (hty f hf) hn hfit (hlen _) hdg (fun H1 locs1 h1 _ h3 => ?_)
    rw [hset] at h1
    exact kk H1 locs1 h1 h3
  · refine va_putN hx hb hts hin ty hty hnm hown hK hP (kW_D hI) hS (kpos k) he hc f hf (va_Nw.use rfl (hnw _ hw)) (fun x h => by rw [href] at h; exact h) hfin (hty f hf) hn hfit (hlen _) hdg (fun H1 locs1 h1 _ h3 => ?_)
    rw [hset] at h1
    exact kk H1 locs1 h1 h3
theorem nI_in32 {i n : Nat} (h : i < n) (hn : n < 65536) : vp_in (nI i) n ∧ (nI i).toNatClampNeg = i := ⟨vp_in_nI h (by omega), nI_clamp (by omega)⟩
/-- iaload -/
theorem kiald (X : kC p s m c cc nL args own D τ) (hP : va_P D vwCl (kW τ ad G) H) {k n i : Nat} (ha : kAr τ ad k 0 .int n) (hi : i < n) (hdg : decode cc pc = .ok (.iaload, 1))
    (kk : W p l e R s m args below meth c H locs cells slots Q (F0 m (pc + 1) ls (.int (G k i) :: rest))) : W p l e R s m args below meth c H locs cells slots Q (F0 m pc ls (.int (nI i) :: .ref (ad k) :: rest)) := by
  obtain ⟨hx, hb, -, hown, hts, hK, hnw⟩ := X
  obtain ⟨hk, hn, cA, ht, hE⟩ := ha
  obtain ⟨h1, h2⟩ := nI_in32 hi hn
  refine va_iald hx hb hK hP (kpos k) 0 ((kW_get hk).trans (by rw [hE])) ht h1 hdg ?_
  rw [h2]
  exact kk
theorem kcald (X : kC p s m c cc nL args own D τ) (hP : va_P D vwCl (kW τ ad G) H) {k n i : Nat} (ha : kAr τ ad k 1 .char n) (hi : i < n) (hdg : decode cc pc = .ok (.caload, 1))
    (kk : W p l e R s m args below meth c H locs cells slots Q (F0 m (pc + 1) ls (.int (G k i) :: rest))) : W p l e R s m args below meth c H locs cells slots Q (F0 m pc ls (.int (nI i) :: .ref (ad k) :: rest)) := by
  obtain ⟨hx, hb, -, hown, hts, hK, hnw⟩ := X
  obtain ⟨hk, hn, cA, ht, hE⟩ := ha
  obtain ⟨h1, h2⟩ := nI_in32 hi hn
  refine va_cald hx hb hK hP (kpos k) 1 ((kW_get hk).trans (by rw [hE])) ht h1 hdg ?_
  rw [h2]
  exact kk
/-- iastore -/
theorem kiast (X : kC p s m c cc nL args own D τ) (hI : kInj ad) (hP : va_P D vwCl (kW τ ad G) H) (hS : va_S (kAd ad) s.heap H locs) {k n i : Nat} {x : Int32} (ha : kAr τ ad k 0 .int n) (hi : i < n) (hdg : decode cc pc = .ok (.iastore, 1))
    (kk : ∀ (H1 : Heap) (locs1 : List Loc), va_P D vwCl (kW τ ad (gs G k i x)) H1 → va_S (kAd ad) s.heap H1 locs1 → W p l e R s m args below meth c H1 locs1 cells slots Q (F0 m (pc + 1) ls rest)) : W p l e R s m args below meth c H locs cells slots Q (F0 m pc ls (.int x :: .int (nI i) :: .ref (ad k) :: rest)) := by
  obtain ⟨hx, hb, -, hown, hts, hK, hnw⟩ := X
  obtain ⟨hk, hn, cA, ht, hE⟩ := ha
  obtain ⟨h1, h2⟩ := nI_in32 hi hn
  refine va_iast hx hb hK hP (kW_D hI) hS (kpos k) 0 ((kW_get hk).trans (by rw [hE])) ht h1 hdg (fun H1 locs1 h3 _ h5 => ?_)
  rw [h2, kW_set (G' := gs G k i x) hk (by rw [hE, gs_up]) (fun i hi => gs_other hi)] at h3
  exact kk H1 locs1 h3 h5
theorem kcast (X : kC p s m c cc nL args own D τ) (hI : kInj ad) (hP : va_P D vwCl (kW τ ad G) H) (hS : va_S (kAd ad) s.heap H locs) {k n i : Nat} {x : Int32} (ha : kAr τ ad k 1 .char n) (hi : i < n) (hx : vp_nar .char x = x) (hdg : decode cc pc = .ok (.castore, 1))
    (kk : ∀ (H1 : Heap) (locs1 : List Loc), va_P D vwCl (kW τ ad (gs G k i x)) H1 → va_S (kAd ad) s.heap H1 locs1 → W p l e R s m args below meth c H1 locs1 cells slots Q (F0 m (pc + 1) ls rest)) : W p l e R s m args below meth c H locs cells slots Q (F0 m pc ls (.int x :: .int (nI i) :: .ref (ad k) :: rest)) := by
  obtain ⟨hx', hb, -, hown, hts, hK, hnw⟩ := X
  obtain ⟨hk, hn, cA, ht, hE⟩ := ha
  obtain ⟨h1, h2⟩ := nI_in32 hi hn
  refine va_cast hx' hb hK hP (kW_D hI) hS (kpos k) 1 ((kW_get hk).trans (by rw [hE])) ht h1 hdg (fun H1 locs1 h3 _ h5 => ?_)
  rw [h2, hx, kW_set (G' := gs G k i x) hk (by rw [hE, gs_up]) (fun i hi => gs_other hi)] at h3
  exact kk H1 locs1 h3 h5
/-- aaload -/
theorem kaald (X : kC p s m c cc nL args own D τ) (hP : va_P D vwCl (kW τ ad G) H) {k t n i : Nat} {C : String} {f : (Nat → Int32) → Nat → Nat} (ha : kQr τ ad k t C n f) (hi : i < n) {a : Nat} (hf : f (G k) i = a) (hdg : decode cc pc = .ok (.aaload, 1))
    (kk : W p l e R s m args below meth c H locs cells slots Q (F0 m (pc + 1) ls (.ref (ad a) :: rest))) : W p l e R s m args below meth c H locs cells slots Q (F0 m pc ls (.int (nI i) :: .ref (ad k) :: rest)) := by
  obtain ⟨hx, hb, -, hown, hts, hK, hnw⟩ := X
  obtain ⟨hk, hn, cA, ht, hE⟩ := ha
  obtain ⟨h1, h2⟩ := nI_in32 hi hn
  refine va_aldq hx hb hK hP (kpos k) t ((kW_get hk).trans (by rw [hE])) ht h1 hdg ?_
  rw [h2, hf]
  exact kk
/-- aastore of a state in the history's array -/
theorem kaast (X : kC p s m c cc nL args own D τ) (hI : kInj ad) (hP : va_P D vwCl (kW τ ad G) H) (hS : va_S (kAd ad) s.heap H locs) {i j : Nat} (hi : i < 4) (hj : j < 7) (hdg : decode cc pc = .ok (.aastore, 1))
    (kk : ∀ (H1 : Heap) (locs1 : List Loc), va_P D vwCl (kW τ ad (gs G 9 i (nI j))) H1 → va_S (kAd ad) s.heap H1 locs1 → W p l e R s m args below meth c H1 locs1 cells slots Q (F0 m (pc + 1) ls rest)) : W p l e R s m args below meth c H locs cells slots Q (F0 m pc ls (.ref (ad (sB j)) :: .int (nI i) :: .ref (ad 9) :: rest)) := by
  obtain ⟨hx', hb, -, hown, hts, hK, hnw⟩ := X
  obtain ⟨h1, h2⟩ := nI_in32 hi (show 4 < 65536 by omega)
  obtain ⟨hk4, hc4, hE4⟩ := oS (τ := τ) (ad := ad) hj
  have hk9 : kZ 9 := by unfold kZ kN; omega
  refine va_astq hx' hb hK hP (kW_D hI) hS (kpos 9) 5 (kpos (sB j)) 4 (kW_get hk9) rfl ((kW_get hk4).trans (by rw [hE4])) hc4 h1 hdg (fun H1 locs1 h3 _ h5 => ?_)
  rw [h2, kW_set (G' := gs G 9 i (nI j)) hk9 (by
    rw [gs_up]
    show _ = (Sum.inl (τ 5, 4, _) : va_E)
    congr 4
    congr 3
    funext q
    by_cases hq : q = i
    · subst hq
      simp [va_up, upd, nI_clamp (show j < 2 ^ 31 by omega)]
    · simp [va_up, upd, hq]) (fun i hi => gs_other hi)] at h3
  exact kk H1 locs1 h3 h5
/-- a call of an instance method that answers an int -/
theorem kcV (X : kC p s m c cc nL args own D τ) (hP : va_P D vwCl (kW τ ad G) H) (hS : va_S (kAd ad) s.heap H locs) {y : MethodName} {bytes : ByteArray} {maxL n index : Nat} {ret : Option FieldType} {rm : Room} {As st : List Value} {R1 : Int32 → (Nat → Nat → Int32) → Prop} {k ci : Nat} {C : String} {T : u_T} {N : Nat} {F : (Nat → Int32) → List Value}
    (hM : kM l y bytes maxL ret rm D τ ad (.ref (ad k) :: As) G R1) (ho : kO τ ad k ci C T N F) (hw : kV own index C y bytes maxL ret n) (hR : kF rm R maxL) (hn : As.length = n) (hst : st = As.reverse ++ .ref (ad k) :: rest) (hcat : (rest.map fun v => v.category).sum ≤ 8) (hls : ls.size = nL) (hf : cells ≤ R.cells ∧ slots ≤ R.slots) (hdg : decode cc pc = .ok (.invokevirtual index, 3))
    (kk : ∀ (r : Int32) (G1 : Nat → Nat → Int32) (H1 : Heap) (locs1 : List Loc), R1 r G1 → va_P D vwCl (kW τ ad G1) H1 → va_S (kAd ad) s.heap H1 locs1 → W p l e R s m args below meth c H1 locs1 cells slots Q (F0 m (pc + 3) ls (.int r :: rest))) : W p l e R s m args below meth c H locs cells slots Q (F0 m pc ls st) := by
  obtain ⟨hx, hb, hml, hown, hts, hK, hnw⟩ := X
  obtain ⟨hk, hc, hE⟩ := ho
  obtain ⟨w1, w2, w3, w4, w5, wy⟩ := hw
  obtain ⟨r1, r2, r3, r4⟩ := hR
  subst hst
  have he : (kW τ ad G)[kpos k]? = some (ad k, .inr (ci, F (G k))) := (kW_get hk).trans (by rw [hE])
  have hGI : GoodIn kWs (wsV own index C y (Cond.code y bytes maxL ret :: kWs)) := goodIn_app (fun w hw => by
    simp only [List.mem_cons, List.not_mem_nil, or_false] at hw
    rcases hw with rfl | rfl | rfl | rfl
    · exact ws_ok w1
    · exact ws_ok w2
    · exact ws_ok w3
    · exact ws_ok w4) (ws_G w5)
  refine va_calli (va_runV (As := As) (rest := rest) ⟨hx, hb, hml, hown, hts⟩ hM (cwV n hts hGI rfl r3 r4 wy ⟨r1, r2⟩) ⟨kI_blind, va_recv hK hP hc he, fun U hU hW => ⟨rfl, kI_at hP hK hnw hU hW⟩⟩ rfl hn hls rfl (lv_room hcat) hdg hf) hS (fun q _ h => h) (fun q h => h) (fun r u t H1 locs1 ht hvm hp hB hz hk1 hS1 => ?_)
  obtain ⟨b1, b2, b3⟩ := hB
  rw [ht] at b1
  exact kk r u H1 locs1 hp b1 hS1
theorem kcVv (X : kC p s m c cc nL args own D τ) (hP : va_P D vwCl (kW τ ad G) H) (hS : va_S (kAd ad) s.heap H locs) {y : MethodName} {bytes : ByteArray} {maxL n index : Nat} {rm : Room} {As st : List Value} {R1 : (Nat → Nat → Int32) → Prop} {k ci : Nat} {C : String} {T : u_T} {N : Nat} {F : (Nat → Int32) → List Value}
    (hM : kMv l y bytes maxL rm D τ ad (.ref (ad k) :: As) G R1) (ho : kO τ ad k ci C T N F) (hw : kV own index C y bytes maxL none n) (hR : kF rm R maxL) (hn : As.length = n) (hst : st = As.reverse ++ .ref (ad k) :: rest) (hcat : (rest.map fun v => v.category).sum ≤ 8) (hls : ls.size = nL) (hf : cells ≤ R.cells ∧ slots ≤ R.slots) (hdg : decode cc pc = .ok (.invokevirtual index, 3))
    (kk : ∀ (G1 : Nat → Nat → Int32) (H1 : Heap) (locs1 : List Loc), R1 G1 → va_P D vwCl (kW τ ad G1) H1 → va_S (kAd ad) s.heap H1 locs1 → W p l e R s m args below meth c H1 locs1 cells slots Q (F0 m (pc + 3) ls rest)) : W p l e R s m args below meth c H locs cells slots Q (F0 m pc ls st) := by
  obtain ⟨hx, hb, hml, hown, hts, hK, hnw⟩ := X
  obtain ⟨hk, hc, hE⟩ := ho
  obtain ⟨w1, w2, w3, w4, w5, wy⟩ := hw
  obtain ⟨r1, r2, r3, r4⟩ := hR
  subst hst
  have he : (kW τ ad G)[kpos k]? = some (ad k, .inr (ci, F (G k))) := (kW_get hk).trans (by rw [hE])
  have hGI : GoodIn kWs (wsV own index C y (Cond.code y bytes maxL none :: kWs)) := goodIn_app (fun w hw => by
    simp only [List.mem_cons, List.not_mem_nil, or_false] at hw
    rcases hw with rfl | rfl | rfl | rfl
    · exact ws_ok w1
    · exact ws_ok w2
    · exact ws_ok w3
    · exact ws_ok w4) (ws_G w5)
  refine va_callv (va_runV (As := As) (rest := rest) ⟨hx, hb, hml, hown, hts⟩ hM (cwV n hts hGI rfl r3 r4 wy ⟨r1, r2⟩) ⟨kI_blind, va_recv hK hP hc he, fun U hU hW => ⟨rfl, kI_at hP hK hnw hU hW⟩⟩ rfl hn hls rfl (lv_room hcat) hdg hf) hS (fun q _ h => h) (fun q h => h) (fun u t H1 locs1 ht hvm hp hB hz hk1 hS1 => ?_)
  obtain ⟨b1, b2, b3⟩ := hB
  rw [ht] at b1
  exact kk u H1 locs1 hp b1 hS1
/-- a call of a static method of the own class that answers an int -/
theorem kcS (X : kC p s m c cc nL args own D τ) (hP : va_P D vwCl (kW τ ad G) H) (hS : va_S (kAd ad) s.heap H locs) {y : MethodName} {bytes : ByteArray} {maxL n index : Nat} {ret : Option FieldType} {rm : Room} {As st : List Value} {R1 : Int32 → (Nat → Nat → Int32) → Prop}
    (hM : kM l y bytes maxL ret rm D τ ad As G R1) (hw : kVs own index y bytes maxL ret n) (hR : kF rm R maxL) (hn : As.length = n) (hst : st = As.reverse ++ rest) (hcat : (rest.map fun v => v.category).sum ≤ 8) (hls : ls.size = nL) (hf : cells ≤ R.cells ∧ slots ≤ R.slots) (hdg : decode cc pc = .ok (.invokestatic index, 3))
    (kk : ∀ (r : Int32) (G1 : Nat → Nat → Int32) (H1 : Heap) (locs1 : List Loc), R1 r G1 → va_P D vwCl (kW τ ad G1) H1 → va_S (kAd ad) s.heap H1 locs1 → W p l e R s m args below meth c H1 locs1 cells slots Q (F0 m (pc + 3) ls (.int r :: rest))) : W p l e R s m args below meth c H locs cells slots Q (F0 m pc ls st) := by
  obtain ⟨hx, hb, hml, hown, hts, hK, hnw⟩ := X
  obtain ⟨w1, w2, w4, w5, wy⟩ := hw
  obtain ⟨r1, r2, r3, r4⟩ := hR
  subst hst
  have hGI : GoodIn kWs (wsS own index y (Cond.code y bytes maxL ret :: kWs)) := goodIn_app (fun w hw => by
    simp only [List.mem_cons, List.not_mem_nil, or_false] at hw
    rcases hw with rfl | rfl | rfl
    · exact ws_ok w1
    · exact ws_ok w2
    · exact ws_ok w4) (ws_G w5)
  refine va_calli (va_runS (As := As) (rest := rest) ⟨hx, hb, hml, hown, hts⟩ hM (cwS n hts hGI rfl r3 r4 wy ⟨r1, r2⟩) ⟨kI_blind, fun U hU hW => ⟨rfl, kI_at hP hK hnw hU hW⟩⟩ rfl hn hls rfl (lv_room hcat) hdg hf) hS (fun q _ h => h) (fun q h => h) (fun r u t H1 locs1 ht hvm hp hB hz hk1 hS1 => ?_)
  obtain ⟨b1, b2, b3⟩ := hB
  rw [ht] at b1
  exact kk r u H1 locs1 hp b1 hS1
/-- a method's contract, out of the walk of its body -/
theorem kMet {y : MethodName} {maxL : Nat} {rm : Room} {As : List Value} {R1 : Int32 → (Nat → Nat → Int32) → Prop} {own : String} (hy : plainName y.cls = true) (hown0 : y.cls = own) (hA : (lg_sl As).length ≤ maxL)
    (body : ∀ (p : Program) (e : Env) (s : State) (m : MethodId) (args : Array Value) (below : List Frame) (meth : Method) (c : Code) (Q : State → Prop), kC p s m c cc maxL args own D τ → p.tables.exec = Jvm.exec → c.code = cc → va_P D vwCl (kW τ ad G) s.heap → va_S (kAd ad) s.heap s.heap [] →
      (∀ (v : Int32) (G1 : Nat → Nat → Int32) (H : Heap) (locs : List Loc) (pc : Nat) (ls : Array Slot), R1 v G1 → va_P D vwCl (kW τ ad G1) H → va_S (kAd ad) s.heap H locs → decode cc pc = .ok (.ireturn, 1) → W p l e rm s m args below meth c H locs 0 0 Q (F0 m pc ls [.int v])) →
      ∀ ls : Array Slot, lv_has ls maxL (lv_args 0 As) → W p l e rm s m args below meth c s.heap [] 0 0 Q (F0 m 0 ls [])) : kM l y cc maxL (some .int) rm D τ ad As G R1 := by
  refine Met.ofW (cc := cc) (maxL := maxL) (ret := some .int) hy rfl ?_
  intro p e s m args below meth c s₁ B hml hv
  obtain ⟨rfl, hP, hK, hN⟩ := hv
  have hts := atoms_spec (ws := Cond.code y cc maxL (some .int) :: kWs) B.pre
  have hown : s.vm.findClass y.cls = some m.cls := findClass_of_methodNamed B.named
  rw [hown0] at hown
  have hl := lv_entry As (n := maxL) hA
  rw [lg_entry_eq]
  refine body p e s m _ below meth c _ ⟨B.exec, B.bytes, hml, hown, fun w hw => hts w (List.mem_cons_of_mem _ hw), hK, hN⟩ B.exec B.bytes hP va_S.rf ?_ _ hl
  intro v G1 H locs pc ls hR1 hP1 hS1 hdg
  exact W.iret B.exec B.bytes B.returns (fun t ht hW => ⟨⟨v, G1, rfl, hR1, kI_at hP1 hK hN ht hW⟩, hS1.F ht⟩) hS1.2.2 hdg (hlocks := B.notSynchronized)
theorem kMetZ {y : MethodName} {maxL : Nat} {rm : Room} {As : List Value} {R1 : Int32 → (Nat → Nat → Int32) → Prop} {own : String} (hy : plainName y.cls = true) (hown0 : y.cls = own) (hA : (lg_sl As).length ≤ maxL)
    (body : ∀ (p : Program) (e : Env) (s : State) (m : MethodId) (args : Array Value) (below : List Frame) (meth : Method) (c : Code) (Q : State → Prop), kC p s m c cc maxL args own D τ → p.tables.exec = Jvm.exec → c.code = cc → va_P D vwCl (kW τ ad G) s.heap → va_S (kAd ad) s.heap s.heap [] →
      (∀ (v : Int32) (G1 : Nat → Nat → Int32) (H : Heap) (locs : List Loc) (pc : Nat) (ls : Array Slot), (v = 0 ∨ v = 1) → R1 v G1 → va_P D vwCl (kW τ ad G1) H → va_S (kAd ad) s.heap H locs → decode cc pc = .ok (.ireturn, 1) → W p l e rm s m args below meth c H locs 0 0 Q (F0 m pc ls [.int v])) →
      ∀ ls : Array Slot, lv_has ls maxL (lv_args 0 As) → W p l e rm s m args below meth c s.heap [] 0 0 Q (F0 m 0 ls [])) : kM l y cc maxL (some .boolean) rm D τ ad As G R1 := by
  refine Met.ofW (cc := cc) (maxL := maxL) (ret := some .boolean) hy rfl ?_
  intro p e s m args below meth c s₁ B hml hv
  obtain ⟨rfl, hP, hK, hN⟩ := hv
  have hts := atoms_spec (ws := Cond.code y cc maxL (some .boolean) :: kWs) B.pre
  have hown : s.vm.findClass y.cls = some m.cls := findClass_of_methodNamed B.named
  rw [hown0] at hown
  have hl := lv_entry As (n := maxL) hA
  rw [lg_entry_eq]
  refine body p e s m _ below meth c _ ⟨B.exec, B.bytes, hml, hown, fun w hw => hts w (List.mem_cons_of_mem _ hw), hK, hN⟩ B.exec B.bytes hP va_S.rf ?_ _ hl
  intro v G1 H locs pc ls hv01 hR1 hP1 hS1 hdg
  exact W.zret B.exec B.bytes B.returns (by rcases hv01 with rfl | rfl <;> rfl) (fun t ht hW => ⟨⟨v, G1, rfl, hR1, kI_at hP1 hK hN ht hW⟩, hS1.F ht⟩) hS1.2.2 hdg (hlocks := B.notSynchronized)
theorem kMetV {y : MethodName} {maxL : Nat} {rm : Room} {As : List Value} {R1 : (Nat → Nat → Int32) → Prop} {own : String} (hy : plainName y.cls = true) (hown0 : y.cls = own) (hA : (lg_sl As).length ≤ maxL)
    (body : ∀ (p : Program) (e : Env) (s : State) (m : MethodId) (args : Array Value) (below : List Frame) (meth : Method) (c : Code) (Q : State → Prop), kC p s m c cc maxL args own D τ → p.tables.exec = Jvm.exec → c.code = cc → va_P D vwCl (kW τ ad G) s.heap → va_S (kAd ad) s.heap s.heap [] →
      (∀ (G1 : Nat → Nat → Int32) (H : Heap) (locs : List Loc) (pc : Nat) (ls : Array Slot), R1 G1 → va_P D vwCl (kW τ ad G1) H → va_S (kAd ad) s.heap H locs → decode cc pc = .ok (.return_, 1) → W p l e rm s m args below meth c H locs 0 0 Q (F0 m pc ls [])) →
      ∀ ls : Array Slot, lv_has ls maxL (lv_args 0 As) → W p l e rm s m args below meth c s.heap [] 0 0 Q (F0 m 0 ls [])) : kMv l y cc maxL rm D τ ad As G R1 := by
  refine Met.ofW (cc := cc) (maxL := maxL) (ret := none) hy rfl ?_
  intro p e s m args below meth c s₁ B hml hv
  obtain ⟨rfl, hP, hK, hN⟩ := hv
  have hts := atoms_spec (ws := Cond.code y cc maxL none :: kWs) B.pre
  have hown : s.vm.findClass y.cls = some m.cls := findClass_of_methodNamed B.named
  rw [hown0] at hown
  have hl := lv_entry As (n := maxL) hA
  rw [lg_entry_eq]
  refine body p e s m _ below meth c _ ⟨B.exec, B.bytes, hml, hown, fun w hw => hts w (List.mem_cons_of_mem _ hw), hK, hN⟩ B.exec B.bytes hP va_S.rf ?_ _ hl
  intro G1 H locs pc ls hR1 hP1 hS1 hdg
  exact W.vret B.exec B.bytes B.returns (fun t ht hW => ⟨⟨G1, rfl, hR1, kI_at hP1 hK hN ht hW⟩, hS1.F ht⟩) hS1.2.2 hdg (hlocks := B.notSynchronized)
/-- locals, in order -/
theorem kist {i n : Nat} {k : Fin 4} {x : Int32} {lv lv' : List (Nat × Value)} (hx : p.tables.exec = Jvm.exec) (hb : c.code = cc) (hdg : decode cc pc = .ok (.istore_n k, 1)) (hi : (k : Nat) = i) (h : lv_has ls n lv) (hn : i < n) (hs : ∀ ls' : Array Slot, lv_has ls' n ((i, Value.int x) :: lv.filter (fun q => !(q.1 == i) && !(q.1 + 1 == i && q.2.category == 2))) → lv_has ls' n lv')
    (kk : ∀ ls' : Array Slot, lv_has ls' n lv' → W p l e R s m args below meth c H locs cells slots Q (F0 m (pc + 1) ls' rest)) : W p l e R s m args below meth c H locs cells slots Q (F0 m pc ls (.int x :: rest)) := lv_istore_n hx hb hdg hi h hn rfl (fun ls' h' => kk ls' (hs ls' h'))
theorem kistW {i n : Nat} {x : Int32} {lv lv' : List (Nat × Value)} (hx : p.tables.exec = Jvm.exec) (hb : c.code = cc) (hdg : decode cc pc = .ok (.istore i, 2)) (h : lv_has ls n lv) (hn : i < n) (hs : ∀ ls' : Array Slot, lv_has ls' n ((i, Value.int x) :: lv.filter (fun q => !(q.1 == i) && !(q.1 + 1 == i && q.2.category == 2))) → lv_has ls' n lv')
    (kk : ∀ ls' : Array Slot, lv_has ls' n lv' → W p l e R s m args below meth c H locs cells slots Q (F0 m (pc + 2) ls' rest)) : W p l e R s m args below meth c H locs cells slots Q (F0 m pc ls (.int x :: rest)) := lv_istore hx hb hdg h hn rfl (fun ls' h' => kk ls' (hs ls' h'))
theorem kast {i n : Nat} {k : Fin 4} {x : Nat} {lv lv' : List (Nat × Value)} (hx : p.tables.exec = Jvm.exec) (hb : c.code = cc) (hdg : decode cc pc = .ok (.astore_n k, 1)) (hi : (k : Nat) = i) (h : lv_has ls n lv) (hn : i < n) (hs : ∀ ls' : Array Slot, lv_has ls' n ((i, Value.ref x) :: lv.filter (fun q => !(q.1 == i) && !(q.1 + 1 == i && q.2.category == 2))) → lv_has ls' n lv')
    (kk : ∀ ls' : Array Slot, lv_has ls' n lv' → W p l e R s m args below meth c H locs cells slots Q (F0 m (pc + 1) ls' rest)) : W p l e R s m args below meth c H locs cells slots Q (F0 m pc ls (.ref x :: rest)) := lv_astore_n hx hb hdg hi h hn rfl (fun ls' h' => kk ls' (hs ls' h'))
theorem kastW {i n : Nat} {x : Nat} {lv lv' : List (Nat × Value)} (hx : p.tables.exec = Jvm.exec) (hb : c.code = cc) (hdg : decode cc pc = .ok (.astore i, 2)) (h : lv_has ls n lv) (hn : i < n) (hs : ∀ ls' : Array Slot, lv_has ls' n ((i, Value.ref x) :: lv.filter (fun q => !(q.1 == i) && !(q.1 + 1 == i && q.2.category == 2))) → lv_has ls' n lv')
    (kk : ∀ ls' : Array Slot, lv_has ls' n lv' → W p l e R s m args below meth c H locs cells slots Q (F0 m (pc + 2) ls' rest)) : W p l e R s m args below meth c H locs cells slots Q (F0 m pc ls (.ref x :: rest)) := lv_astore hx hb hdg h hn rfl (fun ls' h' => kk ls' (hs ls' h'))
/-- iinc of a counter -/
theorem kinc {i n q a : Nat} {lv lv' : List (Nat × Value)} (hx : p.tables.exec = Jvm.exec) (hb : c.code = cc) (hdg : decode cc pc = .ok (.iinc i 1, 3)) (h : lv_has ls n lv) (hk : lv[q]? = some (i, .int (nI a))) (hn : i < n) (hs : ∀ ls' : Array Slot, lv_has ls' n ((i, Value.int (nI (a + 1))) :: lv.filter (fun q => !(q.1 == i) && !(q.1 + 1 == i && q.2.category == 2))) → lv_has ls' n lv')
    (kk : ∀ ls' : Array Slot, lv_has ls' n lv' → W p l e R s m args below meth c H locs cells slots Q (F0 m (pc + 3) ls' rest)) : W p l e R s m args below meth c H locs cells slots Q (F0 m pc ls rest) := lv_iinc (v := nI (a + 1)) hx hb hdg h hk (nI_1 a) hn rfl (fun ls' h' => kk ls' (hs ls' h'))
theorem kincG {i n q : Nat} {x : Int32} {lv lv' : List (Nat × Value)} (hx : p.tables.exec = Jvm.exec) (hb : c.code = cc) (hdg : decode cc pc = .ok (.iinc i 1, 3)) (h : lv_has ls n lv) (hk : lv[q]? = some (i, .int x)) (hn : i < n) (hs : ∀ ls' : Array Slot, lv_has ls' n ((i, Value.int (x + 1)) :: lv.filter (fun q => !(q.1 == i) && !(q.1 + 1 == i && q.2.category == 2))) → lv_has ls' n lv')
    (kk : ∀ ls' : Array Slot, lv_has ls' n lv' → W p l e R s m args below meth c H locs cells slots Q (F0 m (pc + 3) ls' rest)) : W p l e R s m args below meth c H locs cells slots Q (F0 m pc ls rest) := lv_iinc (v := x + 1) hx hb hdg h hk rfl hn rfl (fun ls' h' => kk ls' (hs ls' h'))
/-- numbers that are counters -/
theorem kadd {a b : Nat} {x y : Int32} (hx : p.tables.exec = Jvm.exec) (hb : c.code = cc) (hdg : decode cc pc = .ok (.iadd, 1)) (h1 : x = nI a) (h2 : y = nI b) (kk : W p l e R s m args below meth c H locs cells slots Q (F0 m (pc + 1) ls (.int (nI (a + b)) :: rest))) : W p l e R s m args below meth c H locs cells slots Q (F0 m pc ls (.int y :: .int x :: rest)) := by
  subst h1; subst h2
  refine lv_iadd hx hb hdg ?_
  rw [nI_add]
  exact kk
theorem kmul {a b : Nat} {x y : Int32} (hx : p.tables.exec = Jvm.exec) (hb : c.code = cc) (hdg : decode cc pc = .ok (.imul, 1)) (h1 : x = nI a) (h2 : y = nI b) (kk : W p l e R s m args below meth c H locs cells slots Q (F0 m (pc + 1) ls (.int (nI (a * b)) :: rest))) : W p l e R s m args below meth c H locs cells slots Q (F0 m pc ls (.int y :: .int x :: rest)) := by
  subst h1; subst h2
  refine lv_imul hx hb hdg ?_
  rw [pk_mul]
  exact kk
/-- a condition's 0 or 1 -/
theorem kif_eq {P : Prop} {hd : Decidable P} {off : Int} {tgt : Nat} (hx : p.tables.exec = Jvm.exec) (hb : c.code = cc) (hdg : decode cc pc = .ok (.ifCond .eq off, 3)) (ht : (pc : Int) + off = (tgt : Int))
    (k1 : ¬ P → W p l e R s m args below meth c H locs cells slots Q (F0 m tgt ls rest)) (k2 : P → W p l e R s m args below meth c H locs cells slots Q (F0 m (pc + 3) ls rest)) : W p l e R s m args below meth c H locs cells slots Q (F0 m pc ls (.int (if P then 1 else 0) :: rest)) := by
  refine lv_if_eq (tgt := tgt) hx hb hdg ht (fun h => ?_) (fun h => ?_)
  · exact k1 (fun q => by rw [if_pos q] at h; exact absurd h (by decide))
  · exact k2 (by
      by_cases q : P
      · exact q
      · rw [if_neg q] at h; exact absurd rfl h)
theorem kif_ne {P : Prop} {hd : Decidable P} {off : Int} {tgt : Nat} (hx : p.tables.exec = Jvm.exec) (hb : c.code = cc) (hdg : decode cc pc = .ok (.ifCond .ne off, 3)) (ht : (pc : Int) + off = (tgt : Int))
    (k1 : P → W p l e R s m args below meth c H locs cells slots Q (F0 m tgt ls rest)) (k2 : ¬ P → W p l e R s m args below meth c H locs cells slots Q (F0 m (pc + 3) ls rest)) : W p l e R s m args below meth c H locs cells slots Q (F0 m pc ls (.int (if P then 1 else 0) :: rest)) := by
  refine lv_if_ne (tgt := tgt) hx hb hdg ht (fun h => ?_) (fun h => ?_)
  · exact k1 (by
      by_cases q : P
      · exact q
      · rw [if_neg q] at h; exact absurd rfl h)
  · exact k2 (fun q => by rw [if_pos q] at h; exact absurd h (by decide))
end KR
end
section
theorem g_X6_12 : kL RX6 12 RX6 TX6 6 tyX6 0 := ⟨by decide, inK6, tyX6_ok, nmX6, rfl, Or.inl (kWs_of 223 (by decide +kernel) rfl)⟩
theorem g_X6_16 : kL RX6 16 RX6 TX6 6 tyX6 1 := ⟨by decide, inK6, tyX6_ok, nmX6, rfl, Or.inl (kWs_of 224 (by decide +kernel) rfl)⟩
theorem g_X6_19 : kL RX6 19 RX6 TX6 6 tyX6 2 := ⟨by decide, inK6, tyX6_ok, nmX6, rfl, Or.inl (kWs_of 225 (by decide +kernel) rfl)⟩
theorem g_X6_25 : kL RX6 25 RX6 TX6 6 tyX6 3 := ⟨by decide, inK6, tyX6_ok, nmX6, rfl, Or.inl (kWs_of 226 (by decide +kernel) rfl)⟩
theorem g_X6_32 : kL RX6 32 RX6 TX6 6 tyX6 4 := ⟨by decide, inK6, tyX6_ok, nmX6, rfl, Or.inl (kWs_of 227 (by decide +kernel) rfl)⟩
theorem g_X6_36 : kL RX6 36 RX4 TX4 11 tyX4 6 := ⟨by decide, inK4, tyX4_ok, nmX4, rfl, Or.inr ⟨"RentedMoments", List.mem_of_getElem? (i := 46) (by decide +kernel)⟩⟩
theorem v_X6_40 : kV RX6 40 RX4 yX4_readersIn cX4_readersIn 4 (some .int) 1 := ⟨kWs_of 306 (by decide +kernel) rfl, mw_X4_readersIn.2.1, mw_X4_readersIn.2.2.1, mw_X4_readersIn.2.2.2, mw_X4_readersIn.1, rfl, by decide, by decide, by decide +kernel⟩
theorem v_X6_44 : kV RX6 44 RX2 yX2_record cX2_record 2 none 1 := ⟨kWs_of 376 (by decide +kernel) rfl, mw_X2_record.2.1, mw_X2_record.2.2.1, mw_X2_record.2.2.2, mw_X2_record.1, rfl, by decide, by decide, by decide +kernel⟩
theorem v_X6_48 : kV RX6 48 RX4 yX4_addReader cX4_addReader 3 (some .int) 1 := ⟨kWs_of 404 (by decide +kernel) rfl, mw_X4_addReader.2.1, mw_X4_addReader.2.2.1, mw_X4_addReader.2.2.2, mw_X4_addReader.1, rfl, by decide, by decide, by decide +kernel⟩
theorem v_X6_51 : kV RX6 51 RX4 yX4_hasReader cX4_hasReader 2 (some .boolean) 1 := ⟨kWs_of 245 (by decide +kernel) rfl, mw_X4_hasReader.2.1, mw_X4_hasReader.2.2.1, mw_X4_hasReader.2.2.2, mw_X4_hasReader.1, rfl, by decide, by decide, by decide +kernel⟩
theorem g_X6_55 : kL RX6 55 RX4 TX4 11 tyX4 1 := ⟨by decide, inK4, tyX4_ok, nmX4, rfl, Or.inr ⟨"RentedMoments", List.mem_of_getElem? (i := 41) (by decide +kernel)⟩⟩
theorem v_X6_59 : kV RX6 59 RX3 yX3_isOpen cX3_isOpen 1 (some .boolean) 0 := ⟨kWs_of 269 (by decide +kernel) rfl, mw_X3_isOpen.2.1, mw_X3_isOpen.2.2.1, mw_X3_isOpen.2.2.2, mw_X3_isOpen.1, rfl, by decide, by decide, by decide +kernel⟩
theorem g_X6_65 : kL RX6 65 RX3 TX3 9 tyX3 3 := ⟨by decide, inK3, tyX3_ok, nmX3, rfl, Or.inr ⟨"RentedMoments", List.mem_of_getElem? (i := 14) (by decide +kernel)⟩⟩
theorem g_X6_68 : kL RX6 68 RX3 TX3 9 tyX3 8 := ⟨by decide, inK3, tyX3_ok, nmX3, rfl, Or.inr ⟨"RentedMoments", List.mem_of_getElem? (i := 26) (by decide +kernel)⟩⟩
theorem v_X6_72 : kV RX6 72 RX4 yX4_dueOf cX4_dueOf 4 (some .int) 1 := ⟨kWs_of 249 (by decide +kernel) rfl, mw_X4_dueOf.2.1, mw_X4_dueOf.2.2.1, mw_X4_dueOf.2.2.2, mw_X4_dueOf.1, rfl, by decide, by decide, by decide +kernel⟩
theorem g_X6_76 : kL RX6 76 RX3 TX3 9 tyX3 6 := ⟨by decide, inK3, tyX3_ok, nmX3, rfl, Or.inr ⟨"RentedMoments", List.mem_of_getElem? (i := 22) (by decide +kernel)⟩⟩
theorem g_X6_79 : kL RX6 79 RX3 TX3 9 tyX3 1 := ⟨by decide, inK3, tyX3_ok, nmX3, rfl, Or.inr ⟨"RentedMoments", List.mem_of_getElem? (i := 10) (by decide +kernel)⟩⟩
theorem v_X6_82 : kV RX6 82 RX4 yX4_removeUnseen cX4_removeUnseen 3 (some .int) 0 := ⟨kWs_of 424 (by decide +kernel) rfl, mw_X4_removeUnseen.2.1, mw_X4_removeUnseen.2.2.1, mw_X4_removeUnseen.2.2.2, mw_X4_removeUnseen.1, rfl, by decide, by decide, by decide +kernel⟩
theorem g_X6_86 : kL RX6 86 RX4 TX4 11 tyX4 5 := ⟨by decide, inK4, tyX4_ok, nmX4, rfl, Or.inr ⟨"RentedMoments", List.mem_of_getElem? (i := 45) (by decide +kernel)⟩⟩
theorem g_X6_89 : kL RX6 89 RX4 TX4 11 tyX4 9 := ⟨by decide, inK4, tyX4_ok, nmX4, rfl, Or.inr ⟨"RentedMoments", List.mem_of_getElem? (i := 49) (by decide +kernel)⟩⟩
theorem v_X6_92 : kV RX6 92 RX4 yX4_pairsInSkew cX4_pairsInSkew 3 (some .int) 0 := ⟨kWs_of 318 (by decide +kernel) rfl, mw_X4_pairsInSkew.2.1, mw_X4_pairsInSkew.2.2.1, mw_X4_pairsInSkew.2.2.2, mw_X4_pairsInSkew.1, rfl, by decide, by decide, by decide +kernel⟩
theorem v_X6_95 : kV RX6 95 RX4 yX4_letTicksPass cX4_letTicksPass 7 none 2 := ⟨kWs_of 448 (by decide +kernel) rfl, mw_X4_letTicksPass.2.1, mw_X4_letTicksPass.2.2.1, mw_X4_letTicksPass.2.2.2, mw_X4_letTicksPass.1, rfl, by decide, by decide, by decide +kernel⟩
theorem v_X6_99 : kVs RX6 99 yX6_isCell cX6_isCell 1 (some .boolean) 1 := ⟨kWs_of 343 (by decide +kernel) rfl, mw_X6_isCell.2.1, mw_X6_isCell.2.2, mw_X6_isCell.1, rfl, by decide, by decide, by decide +kernel⟩
theorem v_X6_102 : kV RX6 102 RX3 yX3_hasWrite cX3_hasWrite 2 (some .boolean) 1 := ⟨kWs_of 471 (by decide +kernel) rfl, mw_X3_hasWrite.2.1, mw_X3_hasWrite.2.2.1, mw_X3_hasWrite.2.2.2, mw_X3_hasWrite.1, rfl, by decide, by decide, by decide +kernel⟩
theorem g_X6_105 : kL RX6 105 RX3 TX3 9 tyX3 0 := ⟨by decide, inK3, tyX3_ok, nmX3, rfl, Or.inr ⟨"RentedMoments", List.mem_of_getElem? (i := 7) (by decide +kernel)⟩⟩
theorem g_X6_109 : kL RX6 109 RX3 TX3 9 tyX3 4 := ⟨by decide, inK3, tyX3_ok, nmX3, rfl, Or.inr ⟨"RentedMoments", List.mem_of_getElem? (i := 17) (by decide +kernel)⟩⟩
theorem g_X6_112 : kL RX6 112 RX4 TX4 11 tyX4 0 := ⟨by decide, inK4, tyX4_ok, nmX4, rfl, Or.inr ⟨"RentedMoments", List.mem_of_getElem? (i := 40) (by decide +kernel)⟩⟩
theorem g_X6_116 : kL RX6 116 RX3 TX3 9 tyX3 2 := ⟨by decide, inK3, tyX3_ok, nmX3, rfl, Or.inr ⟨"RentedMoments", List.mem_of_getElem? (i := 13) (by decide +kernel)⟩⟩
theorem v_X6_119 : kV RX6 119 RX0 yX0_valueSeenAt cX0_valueSeenAt 3 (some .int) 1 := ⟨kWs_of 472 (by decide +kernel) rfl, mw_X0_valueSeenAt.2.1, mw_X0_valueSeenAt.2.2.1, mw_X0_valueSeenAt.2.2.2, mw_X0_valueSeenAt.1, rfl, by decide, by decide, by decide +kernel⟩
theorem v_X6_124 : kV RX6 124 RX3 yX3_putWrite cX3_putWrite 3 none 2 := ⟨kWs_of 477 (by decide +kernel) rfl, mw_X3_putWrite.2.1, mw_X3_putWrite.2.2.1, mw_X3_putWrite.2.2.2, mw_X3_putWrite.1, rfl, by decide, by decide, by decide +kernel⟩
theorem v_X6_127 : kV RX6 127 RX3 yX3_numberOfWrites cX3_numberOfWrites 1 (some .int) 0 := ⟨kWs_of 481 (by decide +kernel) rfl, mw_X3_numberOfWrites.2.1, mw_X3_numberOfWrites.2.2.1, mw_X3_numberOfWrites.2.2.2, mw_X3_numberOfWrites.1, rfl, by decide, by decide, by decide +kernel⟩
theorem v_X6_130 : kV RX6 130 RX4 yX4_hasConflict cX4_hasConflict 3 (some .boolean) 1 := ⟨kWs_of 286 (by decide +kernel) rfl, mw_X4_hasConflict.2.1, mw_X4_hasConflict.2.2.1, mw_X4_hasConflict.2.2.2, mw_X4_hasConflict.1, rfl, by decide, by decide, by decide +kernel⟩
theorem v_X6_134 : kV RX6 134 RX4 yX4_skewsOf cX4_skewsOf 4 (some .int) 1 := ⟨kWs_of 294 (by decide +kernel) rfl, mw_X4_skewsOf.2.1, mw_X4_skewsOf.2.2.1, mw_X4_skewsOf.2.2.2, mw_X4_skewsOf.1, rfl, by decide, by decide, by decide +kernel⟩
theorem v_X6_137 : kV RX6 137 RX4 yX4_oldVersionsWithout cX4_oldVersionsWithout 6 (some .int) 1 := ⟨kWs_of 495 (by decide +kernel) rfl, mw_X4_oldVersionsWithout.2.1, mw_X4_oldVersionsWithout.2.2.1, mw_X4_oldVersionsWithout.2.2.2, mw_X4_oldVersionsWithout.1, rfl, by decide, by decide, by decide +kernel⟩
theorem v_X6_140 : kV RX6 140 RX4 yX4_land cX4_land 3 none 1 := ⟨kWs_of 500 (by decide +kernel) rfl, mw_X4_land.2.1, mw_X4_land.2.2.1, mw_X4_land.2.2.2, mw_X4_land.1, rfl, by decide, by decide, by decide +kernel⟩
theorem g_X6_144 : kL RX6 144 RX4 TX4 11 tyX4 3 := ⟨by decide, inK4, tyX4_ok, nmX4, rfl, Or.inr ⟨"RentedMoments", List.mem_of_getElem? (i := 43) (by decide +kernel)⟩⟩
theorem g_X6_165 : kL RX6 165 RX2 TX2 2 tyX2 1 := ⟨by decide, inK2, tyX2_ok, nmX2, rfl, Or.inr ⟨"RentedMoments", List.mem_of_getElem? (i := 50) (by decide +kernel)⟩⟩
theorem v_X6_166 : kV RX6 166 RX2 yX2_bringBack cX2_bringBack 2 none 1 := ⟨kWs_of 539 (by decide +kernel) rfl, mw_X2_bringBack.2.1, mw_X2_bringBack.2.2.1, mw_X2_bringBack.2.2.2, mw_X2_bringBack.1, rfl, by decide, by decide, by decide +kernel⟩
theorem g_X6_175 : kL RX6 175 RX0 TX0 3 tyX0 0 := ⟨by decide, inK0, tyX0_ok, nmX0, rfl, Or.inr ⟨"RentedMoments", List.mem_of_getElem? (i := 1) (by decide +kernel)⟩⟩
theorem g_X6_176 : kL RX6 176 RX0 TX0 3 tyX0 1 := ⟨by decide, inK0, tyX0_ok, nmX0, rfl, Or.inr ⟨"RentedMoments", List.mem_of_getElem? (i := 2) (by decide +kernel)⟩⟩
theorem g_X6_179 : kL RX6 179 RX0 TX0 3 tyX0 2 := ⟨by decide, inK0, tyX0_ok, nmX0, rfl, Or.inr ⟨"RentedMoments", List.mem_of_getElem? (i := 5) (by decide +kernel)⟩⟩
theorem v_X6_182 : kV RX6 182 RX4 yX4_seersOf cX4_seersOf 6 (some .int) 2 := ⟨kWs_of 346 (by decide +kernel) rfl, mw_X4_seersOf.2.1, mw_X4_seersOf.2.2.1, mw_X4_seersOf.2.2.2, mw_X4_seersOf.1, rfl, by decide, by decide, by decide +kernel⟩
theorem v_X6_186 : kV RX6 186 RX4 yX4_writersOf cX4_writersOf 4 (some .int) 1 := ⟨kWs_of 351 (by decide +kernel) rfl, mw_X4_writersOf.2.1, mw_X4_writersOf.2.2.1, mw_X4_writersOf.2.2.2, mw_X4_writersOf.1, rfl, by decide, by decide, by decide +kernel⟩
theorem v_X6_189 : kV RX6 189 RX4 yX4_payersOf cX4_payersOf 6 (some .int) 2 := ⟨kWs_of 359 (by decide +kernel) rfl, mw_X4_payersOf.2.1, mw_X4_payersOf.2.2.1, mw_X4_payersOf.2.2.2, mw_X4_payersOf.1, rfl, by decide, by decide, by decide +kernel⟩
theorem v_X6_192 : kV RX6 192 RX4 yX4_shareOf cX4_shareOf 4 (some .int) 2 := ⟨kWs_of 360 (by decide +kernel) rfl, mw_X4_shareOf.2.1, mw_X4_shareOf.2.2.1, mw_X4_shareOf.2.2.2, mw_X4_shareOf.1, rfl, by decide, by decide, by decide +kernel⟩
theorem g_X6_195 : kL RX6 195 RX3 TX3 9 tyX3 5 := ⟨by decide, inK3, tyX3_ok, nmX3, rfl, Or.inr ⟨"RentedMoments", List.mem_of_getElem? (i := 20) (by decide +kernel)⟩⟩
theorem g_X6_198 : kL RX6 198 RX3 TX3 9 tyX3 7 := ⟨by decide, inK3, tyX3_ok, nmX3, rfl, Or.inr ⟨"RentedMoments", List.mem_of_getElem? (i := 25) (by decide +kernel)⟩⟩
theorem v_X6_201 : kV RX6 201 RX4 yX4_oldVersionsSeenBy cX4_oldVersionsSeenBy 4 (some .int) 1 := ⟨kWs_of 273 (by decide +kernel) rfl, mw_X4_oldVersionsSeenBy.2.1, mw_X4_oldVersionsSeenBy.2.2.1, mw_X4_oldVersionsSeenBy.2.2.2, mw_X4_oldVersionsSeenBy.1, rfl, by decide, by decide, by decide +kernel⟩
theorem v_X6_204 : kV RX6 204 RX4 yX4_sumSeenBy cX4_sumSeenBy 4 (some .int) 1 := ⟨kWs_of 277 (by decide +kernel) rfl, mw_X4_sumSeenBy.2.1, mw_X4_sumSeenBy.2.2.1, mw_X4_sumSeenBy.2.2.2, mw_X4_sumSeenBy.1, rfl, by decide, by decide, by decide +kernel⟩
theorem g_X6_210 : kL RX6 210 RX4 TX4 11 tyX4 7 := ⟨by decide, inK4, tyX4_ok, nmX4, rfl, Or.inr ⟨"RentedMoments", List.mem_of_getElem? (i := 47) (by decide +kernel)⟩⟩
theorem g_X6_213 : kL RX6 213 RX4 TX4 11 tyX4 2 := ⟨by decide, inK4, tyX4_ok, nmX4, rfl, Or.inr ⟨"RentedMoments", List.mem_of_getElem? (i := 42) (by decide +kernel)⟩⟩
theorem g_X6_217 : kL RX6 217 RX1 TX1 6 tyX1 0 := ⟨by decide, inK1, tyX1_ok, nmX1, rfl, Or.inr ⟨"RentedMoments", List.mem_of_getElem? (i := 28) (by decide +kernel)⟩⟩
theorem g_X6_222 : kL RX6 222 RX1 TX1 6 tyX1 1 := ⟨by decide, inK1, tyX1_ok, nmX1, rfl, Or.inr ⟨"RentedMoments", List.mem_of_getElem? (i := 30) (by decide +kernel)⟩⟩
theorem g_X6_225 : kL RX6 225 RX1 TX1 6 tyX1 2 := ⟨by decide, inK1, tyX1_ok, nmX1, rfl, Or.inr ⟨"RentedMoments", List.mem_of_getElem? (i := 32) (by decide +kernel)⟩⟩
theorem g_X6_228 : kL RX6 228 RX1 TX1 6 tyX1 3 := ⟨by decide, inK1, tyX1_ok, nmX1, rfl, Or.inr ⟨"RentedMoments", List.mem_of_getElem? (i := 34) (by decide +kernel)⟩⟩
theorem g_X6_229 : kL RX6 229 RX1 TX1 6 tyX1 4 := ⟨by decide, inK1, tyX1_ok, nmX1, rfl, Or.inr ⟨"RentedMoments", List.mem_of_getElem? (i := 36) (by decide +kernel)⟩⟩
theorem g_X6_230 : kL RX6 230 RX1 TX1 6 tyX1 5 := ⟨by decide, inK1, tyX1_ok, nmX1, rfl, Or.inr ⟨"RentedMoments", List.mem_of_getElem? (i := 38) (by decide +kernel)⟩⟩
theorem g_X6_207 : kL RX6 207 RX4 TX4 11 tyX4 4 := ⟨by decide, inK4, tyX4_ok, nmX4, rfl, Or.inr ⟨"RentedMoments", List.mem_of_getElem? (i := 44) (by decide +kernel)⟩⟩
theorem v_X6_233 : kV RX6 233 RX4 yX4_oldVersions cX4_oldVersions 3 (some .int) 0 := ⟨kWs_of 310 (by decide +kernel) rfl, mw_X4_oldVersions.2.1, mw_X4_oldVersions.2.2.1, mw_X4_oldVersions.2.2.2, mw_X4_oldVersions.1, rfl, by decide, by decide, by decide +kernel⟩
theorem g_X6_236 : kL RX6 236 RX4 TX4 11 tyX4 8 := ⟨by decide, inK4, tyX4_ok, nmX4, rfl, Or.inr ⟨"RentedMoments", List.mem_of_getElem? (i := 48) (by decide +kernel)⟩⟩
theorem v_X6_239 : kV RX6 239 RX4 yX4_coinsPaid cX4_coinsPaid 3 (some .int) 0 := ⟨kWs_of 314 (by decide +kernel) rfl, mw_X4_coinsPaid.2.1, mw_X4_coinsPaid.2.2.1, mw_X4_coinsPaid.2.2.2, mw_X4_coinsPaid.1, rfl, by decide, by decide, by decide +kernel⟩
theorem v_X6_242 : kV RX6 242 RX4 yX4_openWidows cX4_openWidows 3 (some .int) 0 := ⟨kWs_of 322 (by decide +kernel) rfl, mw_X4_openWidows.2.1, mw_X4_openWidows.2.2.1, mw_X4_openWidows.2.2.2, mw_X4_openWidows.1, rfl, by decide, by decide, by decide +kernel⟩
theorem g_X6_145 : kL RX6 145 RX5 TX5 5 tyX5 1 := ⟨by decide, inK5, tyX5_ok, nmX5, rfl, Or.inr ⟨"RentedMoments", List.mem_of_getElem? (i := 52) (by decide +kernel)⟩⟩
theorem g_X0_9 : kL RX0 9 RX0 TX0 3 tyX0 0 := ⟨by decide, inK0, tyX0_ok, nmX0, rfl, Or.inl (kWs_of 35 (by decide +kernel) rfl)⟩
theorem g_X0_15 : kL RX0 15 RX0 TX0 3 tyX0 1 := ⟨by decide, inK0, tyX0_ok, nmX0, rfl, Or.inl (kWs_of 37 (by decide +kernel) rfl)⟩
theorem g_X0_18 : kL RX0 18 RX0 TX0 3 tyX0 2 := ⟨by decide, inK0, tyX0_ok, nmX0, rfl, Or.inl (kWs_of 40 (by decide +kernel) rfl)⟩
theorem v_X0_28 : kV RX0 28 RX0 yX0_placeSeenAt cX0_placeSeenAt 3 (some .int) 1 := ⟨kWs_of 285 (by decide +kernel) rfl, mw_X0_placeSeenAt.2.1, mw_X0_placeSeenAt.2.2.1, mw_X0_placeSeenAt.2.2.2, mw_X0_placeSeenAt.1, rfl, by decide, by decide, by decide +kernel⟩
theorem g_X1_7 : kL RX1 7 RX1 TX1 6 tyX1 0 := ⟨by decide, inK1, tyX1_ok, nmX1, rfl, Or.inl (kWs_of 109 (by decide +kernel) rfl)⟩
theorem g_X1_13 : kL RX1 13 RX1 TX1 6 tyX1 1 := ⟨by decide, inK1, tyX1_ok, nmX1, rfl, Or.inl (kWs_of 112 (by decide +kernel) rfl)⟩
theorem g_X1_16 : kL RX1 16 RX1 TX1 6 tyX1 2 := ⟨by decide, inK1, tyX1_ok, nmX1, rfl, Or.inl (kWs_of 115 (by decide +kernel) rfl)⟩
theorem g_X1_19 : kL RX1 19 RX1 TX1 6 tyX1 3 := ⟨by decide, inK1, tyX1_ok, nmX1, rfl, Or.inl (kWs_of 118 (by decide +kernel) rfl)⟩
theorem g_X1_22 : kL RX1 22 RX1 TX1 6 tyX1 4 := ⟨by decide, inK1, tyX1_ok, nmX1, rfl, Or.inl (kWs_of 121 (by decide +kernel) rfl)⟩
theorem g_X1_25 : kL RX1 25 RX1 TX1 6 tyX1 5 := ⟨by decide, inK1, tyX1_ok, nmX1, rfl, Or.inl (kWs_of 124 (by decide +kernel) rfl)⟩
theorem g_X1_28 : kL RX1 28 RX3 TX3 9 tyX3 2 := ⟨by decide, inK3, tyX3_ok, nmX3, rfl, Or.inr ⟨"RentedMoments", List.mem_of_getElem? (i := 11) (by decide +kernel)⟩⟩
theorem g_X1_33 : kL RX1 33 RX3 TX3 9 tyX3 4 := ⟨by decide, inK3, tyX3_ok, nmX3, rfl, Or.inr ⟨"RentedMoments", List.mem_of_getElem? (i := 16) (by decide +kernel)⟩⟩
theorem g_X1_34 : kL RX1 34 RX3 TX3 9 tyX3 5 := ⟨by decide, inK3, tyX3_ok, nmX3, rfl, Or.inr ⟨"RentedMoments", List.mem_of_getElem? (i := 19) (by decide +kernel)⟩⟩
theorem g_X2_11 : kL RX2 11 RX2 TX2 2 tyX2 0 := ⟨by decide, inK2, tyX2_ok, nmX2, rfl, Or.inl (kWs_of 193 (by decide +kernel) rfl)⟩
theorem g_X2_18 : kL RX2 18 RX2 TX2 2 tyX2 1 := ⟨by decide, inK2, tyX2_ok, nmX2, rfl, Or.inl (kWs_of 194 (by decide +kernel) rfl)⟩
theorem v_X2_22 : kV RX2 22 RX2 yX2_dropOldest cX2_dropOldest 3 none 0 := ⟨kWs_of 380 (by decide +kernel) rfl, mw_X2_dropOldest.2.1, mw_X2_dropOldest.2.2.1, mw_X2_dropOldest.2.2.2, mw_X2_dropOldest.1, rfl, by decide, by decide, by decide +kernel⟩
theorem v_X2_25 : kV RX2 25 RX4 yX4_copyFrom cX4_copyFrom 3 none 1 := ⟨kWs_of 384 (by decide +kernel) rfl, mw_X4_copyFrom.2.1, mw_X4_copyFrom.2.2.1, mw_X4_copyFrom.2.2.2, mw_X4_copyFrom.1, rfl, by decide, by decide, by decide +kernel⟩
theorem g_X3_9 : kL RX3 9 RX3 TX3 9 tyX3 0 := ⟨by decide, inK3, tyX3_ok, nmX3, rfl, Or.inl (kWs_of 56 (by decide +kernel) rfl)⟩
theorem g_X3_15 : kL RX3 15 RX3 TX3 9 tyX3 1 := ⟨by decide, inK3, tyX3_ok, nmX3, rfl, Or.inl (kWs_of 59 (by decide +kernel) rfl)⟩
theorem g_X3_19 : kL RX3 19 RX3 TX3 9 tyX3 2 := ⟨by decide, inK3, tyX3_ok, nmX3, rfl, Or.inl (kWs_of 62 (by decide +kernel) rfl)⟩
theorem g_X3_22 : kL RX3 22 RX3 TX3 9 tyX3 3 := ⟨by decide, inK3, tyX3_ok, nmX3, rfl, Or.inl (kWs_of 66 (by decide +kernel) rfl)⟩
theorem g_X3_25 : kL RX3 25 RX3 TX3 9 tyX3 4 := ⟨by decide, inK3, tyX3_ok, nmX3, rfl, Or.inl (kWs_of 69 (by decide +kernel) rfl)⟩
theorem g_X3_28 : kL RX3 28 RX3 TX3 9 tyX3 5 := ⟨by decide, inK3, tyX3_ok, nmX3, rfl, Or.inl (kWs_of 73 (by decide +kernel) rfl)⟩
theorem g_X3_31 : kL RX3 31 RX3 TX3 9 tyX3 6 := ⟨by decide, inK3, tyX3_ok, nmX3, rfl, Or.inl (kWs_of 77 (by decide +kernel) rfl)⟩
theorem g_X3_34 : kL RX3 34 RX3 TX3 9 tyX3 7 := ⟨by decide, inK3, tyX3_ok, nmX3, rfl, Or.inl (kWs_of 80 (by decide +kernel) rfl)⟩
theorem g_X3_37 : kL RX3 37 RX3 TX3 9 tyX3 8 := ⟨by decide, inK3, tyX3_ok, nmX3, rfl, Or.inl (kWs_of 83 (by decide +kernel) rfl)⟩
theorem g_X4_11 : kL RX4 11 RX4 TX4 11 tyX4 0 := ⟨by decide, inK4, tyX4_ok, nmX4, rfl, Or.inl (kWs_of 140 (by decide +kernel) rfl)⟩
theorem g_X4_19 : kL RX4 19 RX4 TX4 11 tyX4 1 := ⟨by decide, inK4, tyX4_ok, nmX4, rfl, Or.inl (kWs_of 142 (by decide +kernel) rfl)⟩
theorem g_X4_25 : kL RX4 25 RX4 TX4 11 tyX4 2 := ⟨by decide, inK4, tyX4_ok, nmX4, rfl, Or.inl (kWs_of 144 (by decide +kernel) rfl)⟩
theorem g_X4_29 : kL RX4 29 RX4 TX4 11 tyX4 5 := ⟨by decide, inK4, tyX4_ok, nmX4, rfl, Or.inl (kWs_of 150 (by decide +kernel) rfl)⟩
theorem g_X4_33 : kL RX4 33 RX4 TX4 11 tyX4 10 := ⟨by decide, inK4, tyX4_ok, nmX4, rfl, Or.inl (kWs_of 160 (by decide +kernel) rfl)⟩
theorem v_X4_40 : kV RX4 40 RX0 yX0_copyFrom cX0_copyFrom 2 none 1 := ⟨kWs_of 388 (by decide +kernel) rfl, mw_X0_copyFrom.2.1, mw_X0_copyFrom.2.2.1, mw_X0_copyFrom.2.2.2, mw_X0_copyFrom.1, rfl, by decide, by decide, by decide +kernel⟩
theorem g_X4_44 : kL RX4 44 RX4 TX4 11 tyX4 6 := ⟨by decide, inK4, tyX4_ok, nmX4, rfl, Or.inl (kWs_of 153 (by decide +kernel) rfl)⟩
theorem v_X4_47 : kV RX4 47 RX3 yX3_copyFrom cX3_copyFrom 2 none 1 := ⟨kWs_of 395 (by decide +kernel) rfl, mw_X3_copyFrom.2.1, mw_X3_copyFrom.2.2.1, mw_X3_copyFrom.2.2.2, mw_X3_copyFrom.1, rfl, by decide, by decide, by decide +kernel⟩
theorem g_X4_50 : kL RX4 50 RX4 TX4 11 tyX4 7 := ⟨by decide, inK4, tyX4_ok, nmX4, rfl, Or.inl (kWs_of 154 (by decide +kernel) rfl)⟩
theorem v_X4_53 : kV RX4 53 RX1 yX1_copyFrom cX1_copyFrom 2 none 1 := ⟨kWs_of 400 (by decide +kernel) rfl, mw_X1_copyFrom.2.1, mw_X1_copyFrom.2.2.1, mw_X1_copyFrom.2.2.2, mw_X1_copyFrom.1, rfl, by decide, by decide, by decide +kernel⟩
theorem g_X4_56 : kL RX4 56 RX4 TX4 11 tyX4 3 := ⟨by decide, inK4, tyX4_ok, nmX4, rfl, Or.inl (kWs_of 146 (by decide +kernel) rfl)⟩
theorem g_X4_59 : kL RX4 59 RX4 TX4 11 tyX4 4 := ⟨by decide, inK4, tyX4_ok, nmX4, rfl, Or.inl (kWs_of 148 (by decide +kernel) rfl)⟩
theorem g_X4_62 : kL RX4 62 RX4 TX4 11 tyX4 8 := ⟨by decide, inK4, tyX4_ok, nmX4, rfl, Or.inl (kWs_of 156 (by decide +kernel) rfl)⟩
theorem g_X4_65 : kL RX4 65 RX4 TX4 11 tyX4 9 := ⟨by decide, inK4, tyX4_ok, nmX4, rfl, Or.inl (kWs_of 158 (by decide +kernel) rfl)⟩
theorem v_X4_69 : kV RX4 69 RX3 yX3_begin cX3_begin 3 none 2 := ⟨kWs_of 408 (by decide +kernel) rfl, mw_X3_begin.2.1, mw_X3_begin.2.2.1, mw_X3_begin.2.2.2, mw_X3_begin.1, rfl, by decide, by decide, by decide +kernel⟩
theorem g_X4_73 : kL RX4 73 RX3 TX3 9 tyX3 1 := ⟨by decide, inK3, tyX3_ok, nmX3, rfl, Or.inr ⟨"RentedMoments", List.mem_of_getElem? (i := 9) (by decide +kernel)⟩⟩
theorem v_X4_76 : kV RX4 76 RX3 yX3_isOpenWidow cX3_isOpenWidow 1 (some .boolean) 0 := ⟨kWs_of 326 (by decide +kernel) rfl, mw_X3_isOpenWidow.2.1, mw_X3_isOpenWidow.2.2.1, mw_X3_isOpenWidow.2.2.2, mw_X3_isOpenWidow.1, rfl, by decide, by decide, by decide +kernel⟩
theorem g_X4_80 : kL RX4 80 RX3 TX3 9 tyX3 7 := ⟨by decide, inK3, tyX3_ok, nmX3, rfl, Or.inr ⟨"RentedMoments", List.mem_of_getElem? (i := 24) (by decide +kernel)⟩⟩
theorem v_X4_83 : kV RX4 83 RX3 yX3_isOpen cX3_isOpen 1 (some .boolean) 0 := ⟨kWs_of 350 (by decide +kernel) rfl, mw_X3_isOpen.2.1, mw_X3_isOpen.2.2.1, mw_X3_isOpen.2.2.2, mw_X3_isOpen.1, rfl, by decide, by decide, by decide +kernel⟩
theorem v_X4_86 : kV RX4 86 RX3 yX3_hasWrite cX3_hasWrite 2 (some .boolean) 1 := ⟨kWs_of 290 (by decide +kernel) rfl, mw_X3_hasWrite.2.1, mw_X3_hasWrite.2.2.1, mw_X3_hasWrite.2.2.2, mw_X3_hasWrite.1, rfl, by decide, by decide, by decide +kernel⟩
theorem g_X4_90 : kL RX4 90 RX3 TX3 9 tyX3 2 := ⟨by decide, inK3, tyX3_ok, nmX3, rfl, Or.inr ⟨"RentedMoments", List.mem_of_getElem? (i := 12) (by decide +kernel)⟩⟩
theorem v_X4_91 : kV RX4 91 RX0 yX0_placeSeenAt cX0_placeSeenAt 3 (some .int) 1 := ⟨kWs_of 257 (by decide +kernel) rfl, mw_X0_placeSeenAt.2.1, mw_X0_placeSeenAt.2.2.1, mw_X0_placeSeenAt.2.2.2, mw_X0_placeSeenAt.1, rfl, by decide, by decide, by decide +kernel⟩
theorem v_X4_95 : kV RX4 95 RX3 yX3_paysRent cX3_paysRent 1 (some .boolean) 0 := ⟨kWs_of 253 (by decide +kernel) rfl, mw_X3_paysRent.2.1, mw_X3_paysRent.2.2.1, mw_X3_paysRent.2.2.2, mw_X3_paysRent.1, rfl, by decide, by decide, by decide +kernel⟩
theorem g_X4_98 : kL RX4 98 RX0 TX0 3 tyX0 2 := ⟨by decide, inK0, tyX0_ok, nmX0, rfl, Or.inr ⟨"RentedMoments", List.mem_of_getElem? (i := 4) (by decide +kernel)⟩⟩
theorem v_X4_101 : kV RX4 101 RX0 yX0_valueSeenAt cX0_valueSeenAt 3 (some .int) 1 := ⟨kWs_of 281 (by decide +kernel) rfl, mw_X0_valueSeenAt.2.1, mw_X0_valueSeenAt.2.2.1, mw_X0_valueSeenAt.2.2.2, mw_X0_valueSeenAt.1, rfl, by decide, by decide, by decide +kernel⟩
theorem v_X4_104 : kV RX4 104 RX4 yX4_placesSeen cX4_placesSeen 6 (some .int) 2 := ⟨kWs_of 428 (by decide +kernel) rfl, mw_X4_placesSeen.2.1, mw_X4_placesSeen.2.2.1, mw_X4_placesSeen.2.2.2, mw_X4_placesSeen.1, rfl, by decide, by decide, by decide +kernel⟩
theorem v_X4_108 : kV RX4 108 RX0 yX0_retainOld cX0_retainOld 4 (some .int) 1 := ⟨kWs_of 432 (by decide +kernel) rfl, mw_X0_retainOld.2.1, mw_X0_retainOld.2.2.1, mw_X0_retainOld.2.2.2, mw_X0_retainOld.1, rfl, by decide, by decide, by decide +kernel⟩
theorem v_X4_111 : kV RX4 111 RX4 yX4_payersOf cX4_payersOf 6 (some .int) 2 := ⟨kWs_of 265 (by decide +kernel) rfl, mw_X4_payersOf.2.1, mw_X4_payersOf.2.2.1, mw_X4_payersOf.2.2.2, mw_X4_payersOf.1, rfl, by decide, by decide, by decide +kernel⟩
theorem v_X4_114 : kV RX4 114 RX4 yX4_shareOf cX4_shareOf 4 (some .int) 2 := ⟨kWs_of 261 (by decide +kernel) rfl, mw_X4_shareOf.2.1, mw_X4_shareOf.2.2.1, mw_X4_shareOf.2.2.2, mw_X4_shareOf.1, rfl, by decide, by decide, by decide +kernel⟩
theorem v_X4_117 : kV RX4 117 RX4 yX4_dueOf cX4_dueOf 4 (some .int) 1 := ⟨kWs_of 456 (by decide +kernel) rfl, mw_X4_dueOf.2.1, mw_X4_dueOf.2.2.1, mw_X4_dueOf.2.2.2, mw_X4_dueOf.1, rfl, by decide, by decide, by decide +kernel⟩
theorem v_X4_121 : kV RX4 121 RX4 yX4_tellDues cX4_tellDues 2 none 0 := ⟨kWs_of 452 (by decide +kernel) rfl, mw_X4_tellDues.2.1, mw_X4_tellDues.2.2.1, mw_X4_tellDues.2.2.2, mw_X4_tellDues.1, rfl, by decide, by decide, by decide +kernel⟩
theorem v_X4_124 : kV RX4 124 RX4 yX4_takeDues cX4_takeDues 4 (some .boolean) 0 := ⟨kWs_of 457 (by decide +kernel) rfl, mw_X4_takeDues.2.1, mw_X4_takeDues.2.2.1, mw_X4_takeDues.2.2.2, mw_X4_takeDues.1, rfl, by decide, by decide, by decide +kernel⟩
theorem v_X4_127 : kV RX4 127 RX4 yX4_shortenTerms cX4_shortenTerms 4 (some .boolean) 0 := ⟨kWs_of 461 (by decide +kernel) rfl, mw_X4_shortenTerms.2.1, mw_X4_shortenTerms.2.2.1, mw_X4_shortenTerms.2.2.2, mw_X4_shortenTerms.1, rfl, by decide, by decide, by decide +kernel⟩
theorem v_X4_130 : kV RX4 130 RX4 yX4_removeUnseen cX4_removeUnseen 3 (some .int) 0 := ⟨kWs_of 465 (by decide +kernel) rfl, mw_X4_removeUnseen.2.1, mw_X4_removeUnseen.2.2.1, mw_X4_removeUnseen.2.2.2, mw_X4_removeUnseen.1, rfl, by decide, by decide, by decide +kernel⟩
theorem v_X4_134 : kV RX4 134 RX4 yX4_hasReader cX4_hasReader 2 (some .boolean) 1 := ⟨kWs_of 466 (by decide +kernel) rfl, mw_X4_hasReader.2.1, mw_X4_hasReader.2.2.1, mw_X4_hasReader.2.2.2, mw_X4_hasReader.1, rfl, by decide, by decide, by decide +kernel⟩
theorem g_X4_137 : kL RX4 137 RX3 TX3 9 tyX3 3 := ⟨by decide, inK3, tyX3_ok, nmX3, rfl, Or.inr ⟨"RentedMoments", List.mem_of_getElem? (i := 15) (by decide +kernel)⟩⟩
theorem g_X4_140 : kL RX4 140 RX3 TX3 9 tyX3 6 := ⟨by decide, inK3, tyX3_ok, nmX3, rfl, Or.inr ⟨"RentedMoments", List.mem_of_getElem? (i := 23) (by decide +kernel)⟩⟩
theorem g_X4_143 : kL RX4 143 RX0 TX0 3 tyX0 1 := ⟨by decide, inK0, tyX0_ok, nmX0, rfl, Or.inr ⟨"RentedMoments", List.mem_of_getElem? (i := 3) (by decide +kernel)⟩⟩
theorem v_X4_146 : kV RX4 146 RX1 yX1_isInSkewWithLater cX1_isInSkewWithLater 2 (some .boolean) 1 := ⟨kWs_of 298 (by decide +kernel) rfl, mw_X1_isInSkewWithLater.2.1, mw_X1_isInSkewWithLater.2.2.1, mw_X1_isInSkewWithLater.2.2.2, mw_X1_isInSkewWithLater.1, rfl, by decide, by decide, by decide +kernel⟩
theorem g_X4_150 : kL RX4 150 RX1 TX1 6 tyX1 5 := ⟨by decide, inK1, tyX1_ok, nmX1, rfl, Or.inr ⟨"RentedMoments", List.mem_of_getElem? (i := 39) (by decide +kernel)⟩⟩
theorem g_X4_158 : kL RX4 158 RX3 TX3 9 tyX3 5 := ⟨by decide, inK3, tyX3_ok, nmX3, rfl, Or.inr ⟨"RentedMoments", List.mem_of_getElem? (i := 21) (by decide +kernel)⟩⟩
theorem v_X4_161 : kV RX4 161 RX4 yX4_noteCommit cX4_noteCommit 4 none 1 := ⟨kWs_of 504 (by decide +kernel) rfl, mw_X4_noteCommit.2.1, mw_X4_noteCommit.2.2.1, mw_X4_noteCommit.2.2.2, mw_X4_noteCommit.1, rfl, by decide, by decide, by decide +kernel⟩
theorem v_X4_165 : kV RX4 165 RX4 yX4_pushWrites cX4_pushWrites 3 none 1 := ⟨kWs_of 509 (by decide +kernel) rfl, mw_X4_pushWrites.2.1, mw_X4_pushWrites.2.2.1, mw_X4_pushWrites.2.2.2, mw_X4_pushWrites.1, rfl, by decide, by decide, by decide +kernel⟩
theorem g_X4_168 : kL RX4 168 RX1 TX1 6 tyX1 0 := ⟨by decide, inK1, tyX1_ok, nmX1, rfl, Or.inr ⟨"RentedMoments", List.mem_of_getElem? (i := 29) (by decide +kernel)⟩⟩
theorem g_X4_171 : kL RX4 171 RX1 TX1 6 tyX1 1 := ⟨by decide, inK1, tyX1_ok, nmX1, rfl, Or.inr ⟨"RentedMoments", List.mem_of_getElem? (i := 31) (by decide +kernel)⟩⟩
theorem g_X4_174 : kL RX4 174 RX1 TX1 6 tyX1 2 := ⟨by decide, inK1, tyX1_ok, nmX1, rfl, Or.inr ⟨"RentedMoments", List.mem_of_getElem? (i := 33) (by decide +kernel)⟩⟩
theorem g_X4_177 : kL RX4 177 RX1 TX1 6 tyX1 3 := ⟨by decide, inK1, tyX1_ok, nmX1, rfl, Or.inr ⟨"RentedMoments", List.mem_of_getElem? (i := 35) (by decide +kernel)⟩⟩
theorem g_X4_178 : kL RX4 178 RX3 TX3 9 tyX3 4 := ⟨by decide, inK3, tyX3_ok, nmX3, rfl, Or.inr ⟨"RentedMoments", List.mem_of_getElem? (i := 18) (by decide +kernel)⟩⟩
theorem g_X4_181 : kL RX4 181 RX1 TX1 6 tyX1 4 := ⟨by decide, inK1, tyX1_ok, nmX1, rfl, Or.inr ⟨"RentedMoments", List.mem_of_getElem? (i := 37) (by decide +kernel)⟩⟩
theorem v_X4_182 : kV RX4 182 RX4 yX4_skewsOf cX4_skewsOf 4 (some .int) 1 := ⟨kWs_of 508 (by decide +kernel) rfl, mw_X4_skewsOf.2.1, mw_X4_skewsOf.2.2.1, mw_X4_skewsOf.2.2.2, mw_X4_skewsOf.1, rfl, by decide, by decide, by decide +kernel⟩
theorem g_X4_185 : kL RX4 185 RX3 TX3 9 tyX3 0 := ⟨by decide, inK3, tyX3_ok, nmX3, rfl, Or.inr ⟨"RentedMoments", List.mem_of_getElem? (i := 8) (by decide +kernel)⟩⟩
theorem v_X4_188 : kV RX4 188 RX0 yX0_push cX0_push 3 none 2 := ⟨kWs_of 513 (by decide +kernel) rfl, mw_X0_push.2.1, mw_X0_push.2.2.1, mw_X0_push.2.2.2, mw_X0_push.1, rfl, by decide, by decide, by decide +kernel⟩
theorem g_X5_9 : kL RX5 9 RX5 TX5 5 tyX5 0 := ⟨by decide, inK5, tyX5_ok, nmX5, rfl, Or.inl (kWs_of 207 (by decide +kernel) rfl)⟩
theorem g_X5_15 : kL RX5 15 RX5 TX5 5 tyX5 2 := ⟨by decide, inK5, tyX5_ok, nmX5, rfl, Or.inl (kWs_of 209 (by decide +kernel) rfl)⟩
theorem g_X5_19 : kL RX5 19 RX5 TX5 5 tyX5 3 := ⟨by decide, inK5, tyX5_ok, nmX5, rfl, Or.inl (kWs_of 210 (by decide +kernel) rfl)⟩
theorem v_L_13 : kV RL 13 RX6 yX6_count cX6_count 2 (some .int) 1 := ⟨kWs_of 302 (by decide +kernel) rfl, mw_X6_count.2.1, mw_X6_count.2.2.1, mw_X6_count.2.2.2, mw_X6_count.1, rfl, by decide, by decide, by decide +kernel⟩
theorem v_L_19 : kV RL 19 RX6 yX6_cell cX6_cell 4 (some .int) 2 := ⟨kWs_of 339 (by decide +kernel) rfl, mw_X6_cell.2.1, mw_X6_cell.2.2.1, mw_X6_cell.2.2.2, mw_X6_cell.1, rfl, by decide, by decide, by decide +kernel⟩
theorem v_L_23 : kV RL 23 RX6 yX6_version cX6_version 5 (some .int) 3 := ⟨kWs_of 355 (by decide +kernel) rfl, mw_X6_version.2.1, mw_X6_version.2.2.1, mw_X6_version.2.2.2, mw_X6_version.1, rfl, by decide, by decide, by decide +kernel⟩
theorem v_L_27 : kV RL 27 RX6 yX6_reader cX6_reader 4 (some .int) 2 := ⟨kWs_of 241 (by decide +kernel) rfl, mw_X6_reader.2.1, mw_X6_reader.2.2.1, mw_X6_reader.2.2.2, mw_X6_reader.1, rfl, by decide, by decide, by decide +kernel⟩
theorem v_L_30 : kV RL 30 RX6 yX6_committed cX6_committed 4 (some .int) 2 := ⟨kWs_of 361 (by decide +kernel) rfl, mw_X6_committed.2.1, mw_X6_committed.2.2.1, mw_X6_committed.2.2.2, mw_X6_committed.1, rfl, by decide, by decide, by decide +kernel⟩
theorem v_L_33 : kV RL 33 RX6 yX6_open cX6_open 2 (some .int) 1 := ⟨kWs_of 372 (by decide +kernel) rfl, mw_X6_open.2.1, mw_X6_open.2.2.1, mw_X6_open.2.2.2, mw_X6_open.1, rfl, by decide, by decide, by decide +kernel⟩
theorem v_L_36 : kV RL 36 RX6 yX6_pay cX6_pay 4 (some .int) 2 := ⟨kWs_of 412 (by decide +kernel) rfl, mw_X6_pay.2.1, mw_X6_pay.2.2.1, mw_X6_pay.2.2.2, mw_X6_pay.1, rfl, by decide, by decide, by decide +kernel⟩
theorem v_L_39 : kV RL 39 RX6 yX6_widow cX6_widow 5 (some .int) 2 := ⟨kWs_of 416 (by decide +kernel) rfl, mw_X6_widow.2.1, mw_X6_widow.2.2.1, mw_X6_widow.2.2.2, mw_X6_widow.1, rfl, by decide, by decide, by decide +kernel⟩
theorem v_L_42 : kV RL 42 RX6 yX6_close cX6_close 3 (some .int) 1 := ⟨kWs_of 420 (by decide +kernel) rfl, mw_X6_close.2.1, mw_X6_close.2.2.1, mw_X6_close.2.2.2, mw_X6_close.1, rfl, by decide, by decide, by decide +kernel⟩
theorem v_L_45 : kV RL 45 RX6 yX6_setRent cX6_setRent 3 (some .int) 1 := ⟨kWs_of 436 (by decide +kernel) rfl, mw_X6_setRent.2.1, mw_X6_setRent.2.2.1, mw_X6_setRent.2.2.2, mw_X6_setRent.1, rfl, by decide, by decide, by decide +kernel⟩
theorem v_L_48 : kV RL 48 RX6 yX6_tick cX6_tick 3 (some .int) 1 := ⟨kWs_of 444 (by decide +kernel) rfl, mw_X6_tick.2.1, mw_X6_tick.2.2.1, mw_X6_tick.2.2.2, mw_X6_tick.1, rfl, by decide, by decide, by decide +kernel⟩
theorem v_L_51 : kV RL 51 RX6 yX6_write cX6_write 5 (some .int) 3 := ⟨kWs_of 473 (by decide +kernel) rfl, mw_X6_write.2.1, mw_X6_write.2.2.1, mw_X6_write.2.2.2, mw_X6_write.1, rfl, by decide, by decide, by decide +kernel⟩
theorem v_L_54 : kV RL 54 RX6 yX6_commit cX6_commit 3 (some .int) 1 := ⟨kWs_of 491 (by decide +kernel) rfl, mw_X6_commit.2.1, mw_X6_commit.2.2.1, mw_X6_commit.2.2.2, mw_X6_commit.1, rfl, by decide, by decide, by decide +kernel⟩
theorem v_L_57 : kVs RL 57 yL_up cL_up 2 (some .int) 2 := ⟨kWs_of 368 (by decide +kernel) rfl, mw_L_up.2.1, mw_L_up.2.2, mw_L_up.1, rfl, by decide, by decide, by decide +kernel⟩
theorem v_L_62 : kV RL 62 RX6 yX6_forbidSkew cX6_forbidSkew 2 (some .int) 1 := ⟨kWs_of 440 (by decide +kernel) rfl, mw_X6_forbidSkew.2.1, mw_X6_forbidSkew.2.2.1, mw_X6_forbidSkew.2.2.2, mw_X6_forbidSkew.1, rfl, by decide, by decide, by decide +kernel⟩
theorem v_L_66 : kV RL 66 RX6 yX6_read cX6_read 4 (some .int) 2 := ⟨kWs_of 467 (by decide +kernel) rfl, mw_X6_read.2.1, mw_X6_read.2.2.1, mw_X6_read.2.2.2, mw_X6_read.1, rfl, by decide, by decide, by decide +kernel⟩
theorem v_L_69 : kVs RL 69 yL_any cL_any 3 (some .int) 3 := ⟨kWs_of 517 (by decide +kernel) rfl, mw_L_any.2.1, mw_L_any.2.2, mw_L_any.1, rfl, by decide, by decide, by decide +kernel⟩
theorem v_L_73 : kVs RL 73 yL_view cL_view 6 (some .long) 1 := ⟨kWs_of 334 (by decide +kernel) rfl, mw_L_view.2.1, mw_L_view.2.2, mw_L_view.1, rfl, by decide, by decide, by decide +kernel⟩
theorem v_L_77 : kV RL 77 RX6 yX6_undo cX6_undo 1 (some .int) 0 := ⟨kWs_of 535 (by decide +kernel) rfl, mw_X6_undo.2.1, mw_X6_undo.2.2.1, mw_X6_undo.2.2.2, mw_X6_undo.1, rfl, by decide, by decide, by decide +kernel⟩
theorem v_L_81 : kVs RL 81 yL_turn cL_turn 5 (some .int) 4 := ⟨kWs_of 365 (by decide +kernel) rfl, mw_L_turn.2.1, mw_L_turn.2.2, mw_L_turn.1, rfl, by decide, by decide, by decide +kernel⟩
theorem v_L_86 : kVs RL 86 yL_cell cL_cell 2 (some .int) 2 := ⟨kWs_of 330 (by decide +kernel) rfl, mw_L_cell.2.1, mw_L_cell.2.2, mw_L_cell.1, rfl, by decide, by decide, by decide +kernel⟩
theorem v_L_89 : kVs RL 89 yL_seen cL_seen 2 (some .int) 2 := ⟨kWs_of 520 (by decide +kernel) rfl, mw_L_seen.2.1, mw_L_seen.2.2, mw_L_seen.1, rfl, by decide, by decide, by decide +kernel⟩
theorem v_L_93 : kVs RL 93 yL_putBy cL_putBy 4 (some .long) 4 := ⟨kWs_of 529 (by decide +kernel) rfl, mw_L_putBy.2.1, mw_L_putBy.2.2, mw_L_putBy.1, rfl, by decide, by decide, by decide +kernel⟩
theorem v_L_97 : kVs RL 97 yL_isUndone cL_isUndone 10 (some .boolean) 6 := ⟨kWs_of 532 (by decide +kernel) rfl, mw_L_isUndone.2.1, mw_L_isUndone.2.2, mw_L_isUndone.1, rfl, by decide, by decide, by decide +kernel⟩
theorem v_L_101 : kVs RL 101 yL_areVersions cL_areVersions 6 (some .boolean) 1 := ⟨kWs_of 523 (by decide +kernel) rfl, mw_L_areVersions.2.1, mw_L_areVersions.2.2, mw_L_areVersions.1, rfl, by decide, by decide, by decide +kernel⟩
theorem v_L_105 : kVs RL 105 yL_coins cL_coins 6 (some .long) 2 := ⟨kWs_of 526 (by decide +kernel) rfl, mw_L_coins.2.1, mw_L_coins.2.2, mw_L_coins.1, rfl, by decide, by decide, by decide +kernel⟩
end
section
/-! More rows: comparisons of counters, locals in order, sums. -/
section KM
variable {p : Program} {l : Launch} {e : Env} {R : Room} {s : State} {m : MethodId} {args : Array Value} {below : List Frame} {meth : Method} {c : Code} {H : Heap} {locs : List Loc} {cells slots : Nat} {Q : State → Prop}
variable {cc : ByteArray} {pc : Nat} {ls : Array Slot} {rest : List Value} {D : va_G} {τ : Nat → ClassId} {ad : Nat → Nat} {G : Nat → Nat → Int32} {own : String} {nL : Nat}
theorem kic_ge {a b : Nat} {x y : Int32} {off : Int} {tgt : Nat} (hx : p.tables.exec = Jvm.exec) (hb : c.code = cc) (hdg : decode cc pc = .ok (.if_icmp .ge off, 3)) (ht : (pc : Int) + off = (tgt : Int)) (h1 : x = nI a) (h2 : y = nI b) (ha : a < 2 ^ 31) (hb2 : b < 2 ^ 31)
    (k1 : b ≤ a → W p l e R s m args below meth c H locs cells slots Q (F0 m tgt ls rest)) (k2 : a < b → W p l e R s m args below meth c H locs cells slots Q (F0 m (pc + 3) ls rest)) : W p l e R s m args below meth c H locs cells slots Q (F0 m pc ls (.int y :: .int x :: rest)) := by
  subst h1; subst h2
  refine lv_icmp_ge (tgt := tgt) hx hb hdg ht (fun h => k1 ((nI_leI hb2 ha).mp h)) (fun h => k2 (by have q : ¬ b ≤ a := fun z => h ((nI_leI hb2 ha).mpr z); omega))
theorem kic_lt {a b : Nat} {x y : Int32} {off : Int} {tgt : Nat} (hx : p.tables.exec = Jvm.exec) (hb : c.code = cc) (hdg : decode cc pc = .ok (.if_icmp .lt off, 3)) (ht : (pc : Int) + off = (tgt : Int)) (h1 : x = nI a) (h2 : y = nI b) (ha : a < 2 ^ 31) (hb2 : b < 2 ^ 31)
    (k1 : a < b → W p l e R s m args below meth c H locs cells slots Q (F0 m tgt ls rest)) (k2 : b ≤ a → W p l e R s m args below meth c H locs cells slots Q (F0 m (pc + 3) ls rest)) : W p l e R s m args below meth c H locs cells slots Q (F0 m pc ls (.int y :: .int x :: rest)) := by
  subst h1; subst h2
  refine lv_icmp_lt (tgt := tgt) hx hb hdg ht (fun h => k1 ((nI_ltI ha hb2).mp h)) (fun h => k2 (by have q : ¬ a < b := fun z => h ((nI_ltI ha hb2).mpr z); omega))
theorem kic_gt {a b : Nat} {x y : Int32} {off : Int} {tgt : Nat} (hx : p.tables.exec = Jvm.exec) (hb : c.code = cc) (hdg : decode cc pc = .ok (.if_icmp .gt off, 3)) (ht : (pc : Int) + off = (tgt : Int)) (h1 : x = nI a) (h2 : y = nI b) (ha : a < 2 ^ 31) (hb2 : b < 2 ^ 31)
    (k1 : b < a → W p l e R s m args below meth c H locs cells slots Q (F0 m tgt ls rest)) (k2 : a ≤ b → W p l e R s m args below meth c H locs cells slots Q (F0 m (pc + 3) ls rest)) : W p l e R s m args below meth c H locs cells slots Q (F0 m pc ls (.int y :: .int x :: rest)) := by
  subst h1; subst h2
  refine lv_icmp_gt (tgt := tgt) hx hb hdg ht (fun h => k1 ((nI_ltI hb2 ha).mp h)) (fun h => k2 (by have q : ¬ b < a := fun z => h ((nI_ltI hb2 ha).mpr z); omega))
theorem kic_le {a b : Nat} {x y : Int32} {off : Int} {tgt : Nat} (hx : p.tables.exec = Jvm.exec) (hb : c.code = cc) (hdg : decode cc pc = .ok (.if_icmp .le off, 3)) (ht : (pc : Int) + off = (tgt : Int)) (h1 : x = nI a) (h2 : y = nI b) (ha : a < 2 ^ 31) (hb2 : b < 2 ^ 31)
    (k1 : a ≤ b → W p l e R s m args below meth c H locs cells slots Q (F0 m tgt ls rest)) (k2 : b < a → W p l e R s m args below meth c H locs cells slots Q (F0 m (pc + 3) ls rest)) : W p l e R s m args below meth c H locs cells slots Q (F0 m pc ls (.int y :: .int x :: rest)) := by
  subst h1; subst h2
  refine lv_icmp_le (tgt := tgt) hx hb hdg ht (fun h => k1 ((nI_leI ha hb2).mp h)) (fun h => k2 (by have q : ¬ a ≤ b := fun z => h ((nI_leI ha hb2).mpr z); omega))
theorem kic_eq {a b : Nat} {x y : Int32} {off : Int} {tgt : Nat} (hx : p.tables.exec = Jvm.exec) (hb : c.code = cc) (hdg : decode cc pc = .ok (.if_icmp .eq off, 3)) (ht : (pc : Int) + off = (tgt : Int)) (h1 : x = nI a) (h2 : y = nI b) (ha : a < 2 ^ 31) (hb2 : b < 2 ^ 31)
    (k1 : a = b → W p l e R s m args below meth c H locs cells slots Q (F0 m tgt ls rest)) (k2 : a ≠ b → W p l e R s m args below meth c H locs cells slots Q (F0 m (pc + 3) ls rest)) : W p l e R s m args below meth c H locs cells slots Q (F0 m pc ls (.int y :: .int x :: rest)) := by
  subst h1; subst h2
  refine lv_icmp_eq (tgt := tgt) hx hb hdg ht (fun h => k1 ((nI_eq ha hb2).mp h)) (fun h => k2 (fun z => h ((nI_eq ha hb2).mpr z)))
theorem kic_ne {a b : Nat} {x y : Int32} {off : Int} {tgt : Nat} (hx : p.tables.exec = Jvm.exec) (hb : c.code = cc) (hdg : decode cc pc = .ok (.if_icmp .ne off, 3)) (ht : (pc : Int) + off = (tgt : Int)) (h1 : x = nI a) (h2 : y = nI b) (ha : a < 2 ^ 31) (hb2 : b < 2 ^ 31)
    (k1 : a ≠ b → W p l e R s m args below meth c H locs cells slots Q (F0 m tgt ls rest)) (k2 : a = b → W p l e R s m args below meth c H locs cells slots Q (F0 m (pc + 3) ls rest)) : W p l e R s m args below meth c H locs cells slots Q (F0 m pc ls (.int y :: .int x :: rest)) := by
  subst h1; subst h2
  refine lv_icmp_ne (tgt := tgt) hx hb hdg ht (fun h => k1 (fun z => h ((nI_eq ha hb2).mpr z))) (fun h => k2 ((nI_eq ha hb2).mp h))
theorem ksub {a b : Nat} {x y : Int32} (hx : p.tables.exec = Jvm.exec) (hb : c.code = cc) (hdg : decode cc pc = .ok (.isub, 1)) (h1 : x = nI a) (h2 : y = nI b) (hle : b ≤ a) (kk : W p l e R s m args below meth c H locs cells slots Q (F0 m (pc + 1) ls (.int (nI (a - b)) :: rest))) : W p l e R s m args below meth c H locs cells slots Q (F0 m pc ls (.int y :: .int x :: rest)) := by
  subst h1; subst h2
  refine lv_isub hx hb hdg ?_
  rw [pk_sub hle]
  exact kk
theorem kincD {i n q : Nat} {z : Int} {x : Int32} {lv lv' : List (Nat × Value)} (hx : p.tables.exec = Jvm.exec) (hb : c.code = cc) (hdg : decode cc pc = .ok (.iinc i z, 3)) (h : lv_has ls n lv) (hk : lv[q]? = some (i, .int x)) (hn : i < n) (hs : ∀ ls' : Array Slot, lv_has ls' n ((i, Value.int (x + Int32.ofInt z)) :: lv.filter (fun q => !(q.1 == i) && !(q.1 + 1 == i && q.2.category == 2))) → lv_has ls' n lv')
    (kk : ∀ ls' : Array Slot, lv_has ls' n lv' → W p l e R s m args below meth c H locs cells slots Q (F0 m (pc + 3) ls' rest)) : W p l e R s m args below meth c H locs cells slots Q (F0 m pc ls rest) := lv_iinc (v := x + Int32.ofInt z) hx hb hdg h hk rfl hn rfl (fun ls' h' => kk ls' (hs ls' h'))
/-- a call of a static method of another class that answers an int -/
theorem kcS2 (X : kC p s m c cc nL args own D τ) (hP : va_P D vwCl (kW τ ad G) H) (hS : va_S (kAd ad) s.heap H locs) {y : MethodName} {bytes : ByteArray} {maxL n index : Nat} {ret : Option FieldType} {rm : Room} {As st : List Value} {R1 : Int32 → (Nat → Nat → Int32) → Prop}
    (hM : kM l y bytes maxL ret rm D τ ad As G R1) (hw : Cond.methodLink own index y ∈ kWs ∧ Cond.static y ∈ kWs ∧ Cond.initialized y.cls ∈ kWs ∧ Cond.code y bytes maxL ret ∈ kWs ∧ (y.cls ≠ "java/lang/invoke/MethodHandle" ∧ y.cls ≠ "java/lang/invoke/VarHandle" ∧ (parseMethodDescriptor y.desc).map (fun d => d.parameters.length) = some n)) (hR : kF rm R maxL) (hn : As.length = n) (hst : st = As.reverse ++ rest) (hcat : (rest.map fun v => v.category).sum ≤ 8) (hls : ls.size = nL) (hf : cells ≤ R.cells ∧ slots ≤ R.slots) (hdg : decode cc pc = .ok (.invokestatic index, 3))
    (kk : ∀ (r : Int32) (G1 : Nat → Nat → Int32) (H1 : Heap) (locs1 : List Loc), R1 r G1 → va_P D vwCl (kW τ ad G1) H1 → va_S (kAd ad) s.heap H1 locs1 → W p l e R s m args below meth c H1 locs1 cells slots Q (F0 m (pc + 3) ls (.int r :: rest))) : W p l e R s m args below meth c H locs cells slots Q (F0 m pc ls st) := by
  obtain ⟨hx, hb, hml, hown, hts, hK, hnw⟩ := X
  obtain ⟨w1, w2, w4, w5, wy⟩ := hw
  obtain ⟨r1, r2, r3, r4⟩ := hR
  subst hst
  refine va_calli (va_runS (As := As) (rest := rest) ⟨hx, hb, hml, hown, hts⟩ hM ⟨callB_of n hts (ws_G w5) rfl r3 r4 (hts _ w4) (hts _ w1) wy ⟨r1, r2⟩, hts _ w2⟩ ⟨kI_blind, fun U hU hW => ⟨rfl, kI_at hP hK hnw hU hW⟩⟩ rfl hn hls rfl (lv_room hcat) hdg hf) hS (fun q _ h => h) (fun q h => h) (fun r u t H1 locs1 ht hvm hp hB hz hk1 hS1 => ?_)
  obtain ⟨b1, b2, b3⟩ := hB
  rw [ht] at b1
  exact kk r u H1 locs1 hp b1 hS1
/-- System.arraycopy of ints, of one row into another or within one -/
def cpy (f g : Nat → Int32) (sp dp n : Nat) : Nat → Int32 := fun k => if dp ≤ k ∧ k < dp + n then f (sp + (k - dp)) else g k
def gc (G : Nat → Nat → Int32) (k0 k1 sp dp n : Nat) : Nat → Nat → Int32 := fun k => if k = k1 then cpy (G k0) (G k1) sp dp n else G k
def kCp (own : String) (index : Nat) : Prop := Cond.methodLink own index arraycopyName ∈ kWs ∧ Cond.native arraycopyName ∈ kWs ∧ Cond.static arraycopyName ∈ kWs ∧ Cond.initialized "java/lang/System" ∈ kWs
theorem kcopy (X : kC p s m c cc nL args own D τ) (hI : kInj ad) (hP : va_P D vwCl (kW τ ad G) H) (hS : va_S (kAd ad) s.heap H locs) {k0 k1 n0 n1 sp dp n index : Nat} (ha0 : kAr τ ad k0 0 .int n0) (ha1 : kAr τ ad k1 0 .int n1) (hw : kCp own index) (h1 : sp + n ≤ n0) (h2 : dp + n ≤ n1) (hR : 1 ≤ R.frames ∧ 40 ≤ R.locals) (hcat : (rest.map fun v => v.category).sum ≤ 8) (hls : ls.size = nL) (hdg : decode cc pc = .ok (.invokestatic index, 3))
    (kk : ∀ (H1 : Heap) (locs1 : List Loc), va_P D vwCl (kW τ ad (gc G k0 k1 sp dp n)) H1 → va_S (kAd ad) s.heap H1 locs1 → W p l e R s m args below meth c H1 locs1 cells slots Q (F0 m (pc + 3) ls rest)) : W p l e R s m args below meth c H locs cells slots Q (F0 m pc ls (.int (nI n) :: .int (nI dp) :: .ref (ad k1) :: .int (nI sp) :: .ref (ad k0) :: rest)) := by
  obtain ⟨hx, hb, hml, hown, hts, hK, hnw⟩ := X
  obtain ⟨hk0, hn0, c0, ht0, hE0⟩ := ha0
  obtain ⟨hk1, hn1, c1, ht1, hE1⟩ := ha1
  have e1 : (nI sp).toNatClampNeg = sp := nI_clamp (by omega)
  have e2 : (nI dp).toNatClampNeg = dp := nI_clamp (by omega)
  have e3 : (nI n).toNatClampNeg = n := nI_clamp (by omega)
  have p1 : ¬ nI sp < 0 := nI_pos (by omega)
  have p2 : ¬ nI dp < 0 := nI_pos (by omega)
  have p3 : ¬ nI n < 0 := nI_pos (by omega)
  have q1 : (nI sp).toNatClampNeg + (nI n).toNatClampNeg ≤ n0 := by rw [e1, e3]; exact h1
  have q2 : (nI dp).toNatClampNeg + (nI n).toNatClampNeg ≤ n1 := by rw [e2, e3]; exact h2
  have q4 : nativeFrameWords "java/lang/System" "arraycopy" 5 ≤ 20 := by decide
  have q3 : (rest.map fun v => v.category).sum + (nativeFrameWords "java/lang/System" "arraycopy" 5 + 11) ≤ R.locals := by omega
  refine va_copyi hx hb (hml.trans hls.symm) hown (hts _ hw.1) (hts _ hw.2.1) (hts _ hw.2.2.1) (hts _ hw.2.2.2) hK hP (kW_D hI) hS (kpos k0) (kpos k1) 0 0 (ty := .int) ((kW_get hk0).trans (by rw [hE0])) ((kW_get hk1).trans (by rw [hE1])) ht0 ht1 rfl p1 p2 p3 q1 q2 (fun _ _ => rfl) hR.1 q3 hdg (fun H1 locs1 h3 _ h5 => ?_)
  rw [e1, e2, e3] at h3
  have hset := kW_set (τ := τ) (ad := ad) (G := G) (G' := gc G k0 k1 sp dp n) (k := k1) (e := .inl (c1, n1, .inl (va_cpy (G k0) (G k1) sp dp n))) hk1 (by rw [hE1, show gc G k0 k1 sp dp n k1 = va_cpy (G k0) (G k1) sp dp n from by unfold gc; rw [if_pos rfl]; rfl]) (fun i hi => by unfold gc; rw [if_neg hi])
  rw [hset] at h3
  exact kk H1 locs1 h3 h5
end KM
theorem kp_1_0 {n : Nat} {v0 x : Value} : ∀ ls : Array Slot, lv_has ls n ((0, x) :: (([(0, v0)] : List (Nat × Value)).filter (fun q => !(q.1 == 0) && !(q.1 + 1 == 0 && q.2.category == 2)))) → lv_has ls n [(0, x)] := by
  intro ls h'
  rw [show ([(0, v0)] : List (Nat × Value)).filter (fun q => !(q.1 == 0) && !(q.1 + 1 == 0 && q.2.category == 2)) = [] from by simp] at h'
  exact lv_sub h' [0] rfl
theorem kp_1_1 {n : Nat} {v0 x : Value} (h : v0.category = 1) : ∀ ls : Array Slot, lv_has ls n ((1, x) :: (([(0, v0)] : List (Nat × Value)).filter (fun q => !(q.1 == 1) && !(q.1 + 1 == 1 && q.2.category == 2)))) → lv_has ls n [(0, v0), (1, x)] := by
  intro ls h'
  rw [show ([(0, v0)] : List (Nat × Value)).filter (fun q => !(q.1 == 1) && !(q.1 + 1 == 1 && q.2.category == 2)) = [(0, v0)] from by simp [h]] at h'
  exact lv_sub h' [1, 0] rfl
theorem kp_2_0 {n : Nat} {v0 v1 x : Value} : ∀ ls : Array Slot, lv_has ls n ((0, x) :: (([(0, v0), (1, v1)] : List (Nat × Value)).filter (fun q => !(q.1 == 0) && !(q.1 + 1 == 0 && q.2.category == 2)))) → lv_has ls n [(0, x), (1, v1)] := by
  intro ls h'
  rw [show ([(0, v0), (1, v1)] : List (Nat × Value)).filter (fun q => !(q.1 == 0) && !(q.1 + 1 == 0 && q.2.category == 2)) = [(1, v1)] from by simp] at h'
  exact lv_sub h' [0, 1] rfl
theorem kp_2_1 {n : Nat} {v0 v1 x : Value} (h : v0.category = 1) : ∀ ls : Array Slot, lv_has ls n ((1, x) :: (([(0, v0), (1, v1)] : List (Nat × Value)).filter (fun q => !(q.1 == 1) && !(q.1 + 1 == 1 && q.2.category == 2)))) → lv_has ls n [(0, v0), (1, x)] := by
  intro ls h'
  rw [show ([(0, v0), (1, v1)] : List (Nat × Value)).filter (fun q => !(q.1 == 1) && !(q.1 + 1 == 1 && q.2.category == 2)) = [(0, v0)] from by simp [h]] at h'
  exact lv_sub h' [1, 0] rfl
theorem kp_2_2 {n : Nat} {v0 v1 x : Value} (h : v1.category = 1) : ∀ ls : Array Slot, lv_has ls n ((2, x) :: (([(0, v0), (1, v1)] : List (Nat × Value)).filter (fun q => !(q.1 == 2) && !(q.1 + 1 == 2 && q.2.category == 2)))) → lv_has ls n [(0, v0), (1, v1), (2, x)] := by
  intro ls h'
  rw [show ([(0, v0), (1, v1)] : List (Nat × Value)).filter (fun q => !(q.1 == 2) && !(q.1 + 1 == 2 && q.2.category == 2)) = [(0, v0), (1, v1)] from by simp [h]] at h'
  exact lv_sub h' [1, 2, 0] rfl
theorem kp_3_0 {n : Nat} {v0 v1 v2 x : Value} : ∀ ls : Array Slot, lv_has ls n ((0, x) :: (([(0, v0), (1, v1), (2, v2)] : List (Nat × Value)).filter (fun q => !(q.1 == 0) && !(q.1 + 1 == 0 && q.2.category == 2)))) → lv_has ls n [(0, x), (1, v1), (2, v2)] := by
  intro ls h'
  rw [show ([(0, v0), (1, v1), (2, v2)] : List (Nat × Value)).filter (fun q => !(q.1 == 0) && !(q.1 + 1 == 0 && q.2.category == 2)) = [(1, v1), (2, v2)] from by simp] at h'
  exact lv_sub h' [0, 1, 2] rfl
theorem kp_3_1 {n : Nat} {v0 v1 v2 x : Value} (h : v0.category = 1) : ∀ ls : Array Slot, lv_has ls n ((1, x) :: (([(0, v0), (1, v1), (2, v2)] : List (Nat × Value)).filter (fun q => !(q.1 == 1) && !(q.1 + 1 == 1 && q.2.category == 2)))) → lv_has ls n [(0, v0), (1, x), (2, v2)] := by
  intro ls h'
  rw [show ([(0, v0), (1, v1), (2, v2)] : List (Nat × Value)).filter (fun q => !(q.1 == 1) && !(q.1 + 1 == 1 && q.2.category == 2)) = [(0, v0), (2, v2)] from by simp [h]] at h'
  exact lv_sub h' [1, 0, 2] rfl
theorem kp_3_2 {n : Nat} {v0 v1 v2 x : Value} (h : v1.category = 1) : ∀ ls : Array Slot, lv_has ls n ((2, x) :: (([(0, v0), (1, v1), (2, v2)] : List (Nat × Value)).filter (fun q => !(q.1 == 2) && !(q.1 + 1 == 2 && q.2.category == 2)))) → lv_has ls n [(0, v0), (1, v1), (2, x)] := by
  intro ls h'
  rw [show ([(0, v0), (1, v1), (2, v2)] : List (Nat × Value)).filter (fun q => !(q.1 == 2) && !(q.1 + 1 == 2 && q.2.category == 2)) = [(0, v0), (1, v1)] from by simp [h]] at h'
  exact lv_sub h' [1, 2, 0] rfl
theorem kp_3_3 {n : Nat} {v0 v1 v2 x : Value} (h : v2.category = 1) : ∀ ls : Array Slot, lv_has ls n ((3, x) :: (([(0, v0), (1, v1), (2, v2)] : List (Nat × Value)).filter (fun q => !(q.1 == 3) && !(q.1 + 1 == 3 && q.2.category == 2)))) → lv_has ls n [(0, v0), (1, v1), (2, v2), (3, x)] := by
  intro ls h'
  rw [show ([(0, v0), (1, v1), (2, v2)] : List (Nat × Value)).filter (fun q => !(q.1 == 3) && !(q.1 + 1 == 3 && q.2.category == 2)) = [(0, v0), (1, v1), (2, v2)] from by simp [h]] at h'
  exact lv_sub h' [1, 2, 3, 0] rfl
theorem kp_4_0 {n : Nat} {v0 v1 v2 v3 x : Value} : ∀ ls : Array Slot, lv_has ls n ((0, x) :: (([(0, v0), (1, v1), (2, v2), (3, v3)] : List (Nat × Value)).filter (fun q => !(q.1 == 0) && !(q.1 + 1 == 0 && q.2.category == 2)))) → lv_has ls n [(0, x), (1, v1), (2, v2), (3, v3)] := by
  intro ls h'
  rw [show ([(0, v0), (1, v1), (2, v2), (3, v3)] : List (Nat × Value)).filter (fun q => !(q.1 == 0) && !(q.1 + 1 == 0 && q.2.category == 2)) = [(1, v1), (2, v2), (3, v3)] from by simp] at h'
  exact lv_sub h' [0, 1, 2, 3] rfl
theorem kp_4_1 {n : Nat} {v0 v1 v2 v3 x : Value} (h : v0.category = 1) : ∀ ls : Array Slot, lv_has ls n ((1, x) :: (([(0, v0), (1, v1), (2, v2), (3, v3)] : List (Nat × Value)).filter (fun q => !(q.1 == 1) && !(q.1 + 1 == 1 && q.2.category == 2)))) → lv_has ls n [(0, v0), (1, x), (2, v2), (3, v3)] := by
  intro ls h'
  rw [show ([(0, v0), (1, v1), (2, v2), (3, v3)] : List (Nat × Value)).filter (fun q => !(q.1 == 1) && !(q.1 + 1 == 1 && q.2.category == 2)) = [(0, v0), (2, v2), (3, v3)] from by simp [h]] at h'
  exact lv_sub h' [1, 0, 2, 3] rfl
theorem kp_4_2 {n : Nat} {v0 v1 v2 v3 x : Value} (h : v1.category = 1) : ∀ ls : Array Slot, lv_has ls n ((2, x) :: (([(0, v0), (1, v1), (2, v2), (3, v3)] : List (Nat × Value)).filter (fun q => !(q.1 == 2) && !(q.1 + 1 == 2 && q.2.category == 2)))) → lv_has ls n [(0, v0), (1, v1), (2, x), (3, v3)] := by
  intro ls h'
  rw [show ([(0, v0), (1, v1), (2, v2), (3, v3)] : List (Nat × Value)).filter (fun q => !(q.1 == 2) && !(q.1 + 1 == 2 && q.2.category == 2)) = [(0, v0), (1, v1), (3, v3)] from by simp [h]] at h'
  exact lv_sub h' [1, 2, 0, 3] rfl
theorem kp_4_3 {n : Nat} {v0 v1 v2 v3 x : Value} (h : v2.category = 1) : ∀ ls : Array Slot, lv_has ls n ((3, x) :: (([(0, v0), (1, v1), (2, v2), (3, v3)] : List (Nat × Value)).filter (fun q => !(q.1 == 3) && !(q.1 + 1 == 3 && q.2.category == 2)))) → lv_has ls n [(0, v0), (1, v1), (2, v2), (3, x)] := by
  intro ls h'
  rw [show ([(0, v0), (1, v1), (2, v2), (3, v3)] : List (Nat × Value)).filter (fun q => !(q.1 == 3) && !(q.1 + 1 == 3 && q.2.category == 2)) = [(0, v0), (1, v1), (2, v2)] from by simp [h]] at h'
  exact lv_sub h' [1, 2, 3, 0] rfl
theorem kp_4_4 {n : Nat} {v0 v1 v2 v3 x : Value} (h : v3.category = 1) : ∀ ls : Array Slot, lv_has ls n ((4, x) :: (([(0, v0), (1, v1), (2, v2), (3, v3)] : List (Nat × Value)).filter (fun q => !(q.1 == 4) && !(q.1 + 1 == 4 && q.2.category == 2)))) → lv_has ls n [(0, v0), (1, v1), (2, v2), (3, v3), (4, x)] := by
  intro ls h'
  rw [show ([(0, v0), (1, v1), (2, v2), (3, v3)] : List (Nat × Value)).filter (fun q => !(q.1 == 4) && !(q.1 + 1 == 4 && q.2.category == 2)) = [(0, v0), (1, v1), (2, v2), (3, v3)] from by simp [h]] at h'
  exact lv_sub h' [1, 2, 3, 4, 0] rfl
theorem kp_5_0 {n : Nat} {v0 v1 v2 v3 v4 x : Value} : ∀ ls : Array Slot, lv_has ls n ((0, x) :: (([(0, v0), (1, v1), (2, v2), (3, v3), (4, v4)] : List (Nat × Value)).filter (fun q => !(q.1 == 0) && !(q.1 + 1 == 0 && q.2.category == 2)))) → lv_has ls n [(0, x), (1, v1), (2, v2), (3, v3), (4, v4)] := by
  intro ls h'
  rw [show ([(0, v0), (1, v1), (2, v2), (3, v3), (4, v4)] : List (Nat × Value)).filter (fun q => !(q.1 == 0) && !(q.1 + 1 == 0 && q.2.category == 2)) = [(1, v1), (2, v2), (3, v3), (4, v4)] from by simp] at h'
  exact lv_sub h' [0, 1, 2, 3, 4] rfl
theorem kp_5_1 {n : Nat} {v0 v1 v2 v3 v4 x : Value} (h : v0.category = 1) : ∀ ls : Array Slot, lv_has ls n ((1, x) :: (([(0, v0), (1, v1), (2, v2), (3, v3), (4, v4)] : List (Nat × Value)).filter (fun q => !(q.1 == 1) && !(q.1 + 1 == 1 && q.2.category == 2)))) → lv_has ls n [(0, v0), (1, x), (2, v2), (3, v3), (4, v4)] := by
  intro ls h'
  rw [show ([(0, v0), (1, v1), (2, v2), (3, v3), (4, v4)] : List (Nat × Value)).filter (fun q => !(q.1 == 1) && !(q.1 + 1 == 1 && q.2.category == 2)) = [(0, v0), (2, v2), (3, v3), (4, v4)] from by simp [h]] at h'
  exact lv_sub h' [1, 0, 2, 3, 4] rfl
theorem kp_5_2 {n : Nat} {v0 v1 v2 v3 v4 x : Value} (h : v1.category = 1) : ∀ ls : Array Slot, lv_has ls n ((2, x) :: (([(0, v0), (1, v1), (2, v2), (3, v3), (4, v4)] : List (Nat × Value)).filter (fun q => !(q.1 == 2) && !(q.1 + 1 == 2 && q.2.category == 2)))) → lv_has ls n [(0, v0), (1, v1), (2, x), (3, v3), (4, v4)] := by
  intro ls h'
  rw [show ([(0, v0), (1, v1), (2, v2), (3, v3), (4, v4)] : List (Nat × Value)).filter (fun q => !(q.1 == 2) && !(q.1 + 1 == 2 && q.2.category == 2)) = [(0, v0), (1, v1), (3, v3), (4, v4)] from by simp [h]] at h'
  exact lv_sub h' [1, 2, 0, 3, 4] rfl
theorem kp_5_3 {n : Nat} {v0 v1 v2 v3 v4 x : Value} (h : v2.category = 1) : ∀ ls : Array Slot, lv_has ls n ((3, x) :: (([(0, v0), (1, v1), (2, v2), (3, v3), (4, v4)] : List (Nat × Value)).filter (fun q => !(q.1 == 3) && !(q.1 + 1 == 3 && q.2.category == 2)))) → lv_has ls n [(0, v0), (1, v1), (2, v2), (3, x), (4, v4)] := by
  intro ls h'
  rw [show ([(0, v0), (1, v1), (2, v2), (3, v3), (4, v4)] : List (Nat × Value)).filter (fun q => !(q.1 == 3) && !(q.1 + 1 == 3 && q.2.category == 2)) = [(0, v0), (1, v1), (2, v2), (4, v4)] from by simp [h]] at h'
  exact lv_sub h' [1, 2, 3, 0, 4] rfl
theorem kp_5_4 {n : Nat} {v0 v1 v2 v3 v4 x : Value} (h : v3.category = 1) : ∀ ls : Array Slot, lv_has ls n ((4, x) :: (([(0, v0), (1, v1), (2, v2), (3, v3), (4, v4)] : List (Nat × Value)).filter (fun q => !(q.1 == 4) && !(q.1 + 1 == 4 && q.2.category == 2)))) → lv_has ls n [(0, v0), (1, v1), (2, v2), (3, v3), (4, x)] := by
  intro ls h'
  rw [show ([(0, v0), (1, v1), (2, v2), (3, v3), (4, v4)] : List (Nat × Value)).filter (fun q => !(q.1 == 4) && !(q.1 + 1 == 4 && q.2.category == 2)) = [(0, v0), (1, v1), (2, v2), (3, v3)] from by simp [h]] at h'
  exact lv_sub h' [1, 2, 3, 4, 0] rfl
theorem kp_5_5 {n : Nat} {v0 v1 v2 v3 v4 x : Value} (h : v4.category = 1) : ∀ ls : Array Slot, lv_has ls n ((5, x) :: (([(0, v0), (1, v1), (2, v2), (3, v3), (4, v4)] : List (Nat × Value)).filter (fun q => !(q.1 == 5) && !(q.1 + 1 == 5 && q.2.category == 2)))) → lv_has ls n [(0, v0), (1, v1), (2, v2), (3, v3), (4, v4), (5, x)] := by
  intro ls h'
  rw [show ([(0, v0), (1, v1), (2, v2), (3, v3), (4, v4)] : List (Nat × Value)).filter (fun q => !(q.1 == 5) && !(q.1 + 1 == 5 && q.2.category == 2)) = [(0, v0), (1, v1), (2, v2), (3, v3), (4, v4)] from by simp [h]] at h'
  exact lv_sub h' [1, 2, 3, 4, 5, 0] rfl
theorem kp_6_0 {n : Nat} {v0 v1 v2 v3 v4 v5 x : Value} : ∀ ls : Array Slot, lv_has ls n ((0, x) :: (([(0, v0), (1, v1), (2, v2), (3, v3), (4, v4), (5, v5)] : List (Nat × Value)).filter (fun q => !(q.1 == 0) && !(q.1 + 1 == 0 && q.2.category == 2)))) → lv_has ls n [(0, x), (1, v1), (2, v2), (3, v3), (4, v4), (5, v5)] := by
  intro ls h'
  rw [show ([(0, v0), (1, v1), (2, v2), (3, v3), (4, v4), (5, v5)] : List (Nat × Value)).filter (fun q => !(q.1 == 0) && !(q.1 + 1 == 0 && q.2.category == 2)) = [(1, v1), (2, v2), (3, v3), (4, v4), (5, v5)] from by simp] at h'
  exact lv_sub h' [0, 1, 2, 3, 4, 5] rfl
theorem kp_6_1 {n : Nat} {v0 v1 v2 v3 v4 v5 x : Value} (h : v0.category = 1) : ∀ ls : Array Slot, lv_has ls n ((1, x) :: (([(0, v0), (1, v1), (2, v2), (3, v3), (4, v4), (5, v5)] : List (Nat × Value)).filter (fun q => !(q.1 == 1) && !(q.1 + 1 == 1 && q.2.category == 2)))) → lv_has ls n [(0, v0), (1, x), (2, v2), (3, v3), (4, v4), (5, v5)] := by
  intro ls h'
  rw [show ([(0, v0), (1, v1), (2, v2), (3, v3), (4, v4), (5, v5)] : List (Nat × Value)).filter (fun q => !(q.1 == 1) && !(q.1 + 1 == 1 && q.2.category == 2)) = [(0, v0), (2, v2), (3, v3), (4, v4), (5, v5)] from by simp [h]] at h'
  exact lv_sub h' [1, 0, 2, 3, 4, 5] rfl
theorem kp_6_2 {n : Nat} {v0 v1 v2 v3 v4 v5 x : Value} (h : v1.category = 1) : ∀ ls : Array Slot, lv_has ls n ((2, x) :: (([(0, v0), (1, v1), (2, v2), (3, v3), (4, v4), (5, v5)] : List (Nat × Value)).filter (fun q => !(q.1 == 2) && !(q.1 + 1 == 2 && q.2.category == 2)))) → lv_has ls n [(0, v0), (1, v1), (2, x), (3, v3), (4, v4), (5, v5)] := by
  intro ls h'
  rw [show ([(0, v0), (1, v1), (2, v2), (3, v3), (4, v4), (5, v5)] : List (Nat × Value)).filter (fun q => !(q.1 == 2) && !(q.1 + 1 == 2 && q.2.category == 2)) = [(0, v0), (1, v1), (3, v3), (4, v4), (5, v5)] from by simp [h]] at h'
  exact lv_sub h' [1, 2, 0, 3, 4, 5] rfl
theorem kp_6_3 {n : Nat} {v0 v1 v2 v3 v4 v5 x : Value} (h : v2.category = 1) : ∀ ls : Array Slot, lv_has ls n ((3, x) :: (([(0, v0), (1, v1), (2, v2), (3, v3), (4, v4), (5, v5)] : List (Nat × Value)).filter (fun q => !(q.1 == 3) && !(q.1 + 1 == 3 && q.2.category == 2)))) → lv_has ls n [(0, v0), (1, v1), (2, v2), (3, x), (4, v4), (5, v5)] := by
  intro ls h'
  rw [show ([(0, v0), (1, v1), (2, v2), (3, v3), (4, v4), (5, v5)] : List (Nat × Value)).filter (fun q => !(q.1 == 3) && !(q.1 + 1 == 3 && q.2.category == 2)) = [(0, v0), (1, v1), (2, v2), (4, v4), (5, v5)] from by simp [h]] at h'
  exact lv_sub h' [1, 2, 3, 0, 4, 5] rfl
theorem kp_6_4 {n : Nat} {v0 v1 v2 v3 v4 v5 x : Value} (h : v3.category = 1) : ∀ ls : Array Slot, lv_has ls n ((4, x) :: (([(0, v0), (1, v1), (2, v2), (3, v3), (4, v4), (5, v5)] : List (Nat × Value)).filter (fun q => !(q.1 == 4) && !(q.1 + 1 == 4 && q.2.category == 2)))) → lv_has ls n [(0, v0), (1, v1), (2, v2), (3, v3), (4, x), (5, v5)] := by
  intro ls h'
  rw [show ([(0, v0), (1, v1), (2, v2), (3, v3), (4, v4), (5, v5)] : List (Nat × Value)).filter (fun q => !(q.1 == 4) && !(q.1 + 1 == 4 && q.2.category == 2)) = [(0, v0), (1, v1), (2, v2), (3, v3), (5, v5)] from by simp [h]] at h'
  exact lv_sub h' [1, 2, 3, 4, 0, 5] rfl
theorem kp_6_5 {n : Nat} {v0 v1 v2 v3 v4 v5 x : Value} (h : v4.category = 1) : ∀ ls : Array Slot, lv_has ls n ((5, x) :: (([(0, v0), (1, v1), (2, v2), (3, v3), (4, v4), (5, v5)] : List (Nat × Value)).filter (fun q => !(q.1 == 5) && !(q.1 + 1 == 5 && q.2.category == 2)))) → lv_has ls n [(0, v0), (1, v1), (2, v2), (3, v3), (4, v4), (5, x)] := by
  intro ls h'
  rw [show ([(0, v0), (1, v1), (2, v2), (3, v3), (4, v4), (5, v5)] : List (Nat × Value)).filter (fun q => !(q.1 == 5) && !(q.1 + 1 == 5 && q.2.category == 2)) = [(0, v0), (1, v1), (2, v2), (3, v3), (4, v4)] from by simp [h]] at h'
  exact lv_sub h' [1, 2, 3, 4, 5, 0] rfl
theorem kp_6_6 {n : Nat} {v0 v1 v2 v3 v4 v5 x : Value} (h : v5.category = 1) : ∀ ls : Array Slot, lv_has ls n ((6, x) :: (([(0, v0), (1, v1), (2, v2), (3, v3), (4, v4), (5, v5)] : List (Nat × Value)).filter (fun q => !(q.1 == 6) && !(q.1 + 1 == 6 && q.2.category == 2)))) → lv_has ls n [(0, v0), (1, v1), (2, v2), (3, v3), (4, v4), (5, v5), (6, x)] := by
  intro ls h'
  rw [show ([(0, v0), (1, v1), (2, v2), (3, v3), (4, v4), (5, v5)] : List (Nat × Value)).filter (fun q => !(q.1 == 6) && !(q.1 + 1 == 6 && q.2.category == 2)) = [(0, v0), (1, v1), (2, v2), (3, v3), (4, v4), (5, v5)] from by simp [h]] at h'
  exact lv_sub h' [1, 2, 3, 4, 5, 6, 0] rfl
theorem kp_7_0 {n : Nat} {v0 v1 v2 v3 v4 v5 v6 x : Value} : ∀ ls : Array Slot, lv_has ls n ((0, x) :: (([(0, v0), (1, v1), (2, v2), (3, v3), (4, v4), (5, v5), (6, v6)] : List (Nat × Value)).filter (fun q => !(q.1 == 0) && !(q.1 + 1 == 0 && q.2.category == 2)))) → lv_has ls n [(0, x), (1, v1), (2, v2), (3, v3), (4, v4), (5, v5), (6, v6)] := by
  intro ls h'
  rw [show ([(0, v0), (1, v1), (2, v2), (3, v3), (4, v4), (5, v5), (6, v6)] : List (Nat × Value)).filter (fun q => !(q.1 == 0) && !(q.1 + 1 == 0 && q.2.category == 2)) = [(1, v1), (2, v2), (3, v3), (4, v4), (5, v5), (6, v6)] from by simp] at h'
  exact lv_sub h' [0, 1, 2, 3, 4, 5, 6] rfl
theorem kp_7_1 {n : Nat} {v0 v1 v2 v3 v4 v5 v6 x : Value} (h : v0.category = 1) : ∀ ls : Array Slot, lv_has ls n ((1, x) :: (([(0, v0), (1, v1), (2, v2), (3, v3), (4, v4), (5, v5), (6, v6)] : List (Nat × Value)).filter (fun q => !(q.1 == 1) && !(q.1 + 1 == 1 && q.2.category == 2)))) → lv_has ls n [(0, v0), (1, x), (2, v2), (3, v3), (4, v4), (5, v5), (6, v6)] := by
  intro ls h'
  rw [show ([(0, v0), (1, v1), (2, v2), (3, v3), (4, v4), (5, v5), (6, v6)] : List (Nat × Value)).filter (fun q => !(q.1 == 1) && !(q.1 + 1 == 1 && q.2.category == 2)) = [(0, v0), (2, v2), (3, v3), (4, v4), (5, v5), (6, v6)] from by simp [h]] at h'
  exact lv_sub h' [1, 0, 2, 3, 4, 5, 6] rfl
theorem kp_7_2 {n : Nat} {v0 v1 v2 v3 v4 v5 v6 x : Value} (h : v1.category = 1) : ∀ ls : Array Slot, lv_has ls n ((2, x) :: (([(0, v0), (1, v1), (2, v2), (3, v3), (4, v4), (5, v5), (6, v6)] : List (Nat × Value)).filter (fun q => !(q.1 == 2) && !(q.1 + 1 == 2 && q.2.category == 2)))) → lv_has ls n [(0, v0), (1, v1), (2, x), (3, v3), (4, v4), (5, v5), (6, v6)] := by
  intro ls h'
  rw [show ([(0, v0), (1, v1), (2, v2), (3, v3), (4, v4), (5, v5), (6, v6)] : List (Nat × Value)).filter (fun q => !(q.1 == 2) && !(q.1 + 1 == 2 && q.2.category == 2)) = [(0, v0), (1, v1), (3, v3), (4, v4), (5, v5), (6, v6)] from by simp [h]] at h'
  exact lv_sub h' [1, 2, 0, 3, 4, 5, 6] rfl
theorem kp_7_3 {n : Nat} {v0 v1 v2 v3 v4 v5 v6 x : Value} (h : v2.category = 1) : ∀ ls : Array Slot, lv_has ls n ((3, x) :: (([(0, v0), (1, v1), (2, v2), (3, v3), (4, v4), (5, v5), (6, v6)] : List (Nat × Value)).filter (fun q => !(q.1 == 3) && !(q.1 + 1 == 3 && q.2.category == 2)))) → lv_has ls n [(0, v0), (1, v1), (2, v2), (3, x), (4, v4), (5, v5), (6, v6)] := by
  intro ls h'
  rw [show ([(0, v0), (1, v1), (2, v2), (3, v3), (4, v4), (5, v5), (6, v6)] : List (Nat × Value)).filter (fun q => !(q.1 == 3) && !(q.1 + 1 == 3 && q.2.category == 2)) = [(0, v0), (1, v1), (2, v2), (4, v4), (5, v5), (6, v6)] from by simp [h]] at h'
  exact lv_sub h' [1, 2, 3, 0, 4, 5, 6] rfl
theorem kp_7_4 {n : Nat} {v0 v1 v2 v3 v4 v5 v6 x : Value} (h : v3.category = 1) : ∀ ls : Array Slot, lv_has ls n ((4, x) :: (([(0, v0), (1, v1), (2, v2), (3, v3), (4, v4), (5, v5), (6, v6)] : List (Nat × Value)).filter (fun q => !(q.1 == 4) && !(q.1 + 1 == 4 && q.2.category == 2)))) → lv_has ls n [(0, v0), (1, v1), (2, v2), (3, v3), (4, x), (5, v5), (6, v6)] := by
  intro ls h'
  rw [show ([(0, v0), (1, v1), (2, v2), (3, v3), (4, v4), (5, v5), (6, v6)] : List (Nat × Value)).filter (fun q => !(q.1 == 4) && !(q.1 + 1 == 4 && q.2.category == 2)) = [(0, v0), (1, v1), (2, v2), (3, v3), (5, v5), (6, v6)] from by simp [h]] at h'
  exact lv_sub h' [1, 2, 3, 4, 0, 5, 6] rfl
theorem kp_7_5 {n : Nat} {v0 v1 v2 v3 v4 v5 v6 x : Value} (h : v4.category = 1) : ∀ ls : Array Slot, lv_has ls n ((5, x) :: (([(0, v0), (1, v1), (2, v2), (3, v3), (4, v4), (5, v5), (6, v6)] : List (Nat × Value)).filter (fun q => !(q.1 == 5) && !(q.1 + 1 == 5 && q.2.category == 2)))) → lv_has ls n [(0, v0), (1, v1), (2, v2), (3, v3), (4, v4), (5, x), (6, v6)] := by
  intro ls h'
  rw [show ([(0, v0), (1, v1), (2, v2), (3, v3), (4, v4), (5, v5), (6, v6)] : List (Nat × Value)).filter (fun q => !(q.1 == 5) && !(q.1 + 1 == 5 && q.2.category == 2)) = [(0, v0), (1, v1), (2, v2), (3, v3), (4, v4), (6, v6)] from by simp [h]] at h'
  exact lv_sub h' [1, 2, 3, 4, 5, 0, 6] rfl
theorem kp_7_6 {n : Nat} {v0 v1 v2 v3 v4 v5 v6 x : Value} (h : v5.category = 1) : ∀ ls : Array Slot, lv_has ls n ((6, x) :: (([(0, v0), (1, v1), (2, v2), (3, v3), (4, v4), (5, v5), (6, v6)] : List (Nat × Value)).filter (fun q => !(q.1 == 6) && !(q.1 + 1 == 6 && q.2.category == 2)))) → lv_has ls n [(0, v0), (1, v1), (2, v2), (3, v3), (4, v4), (5, v5), (6, x)] := by
  intro ls h'
  rw [show ([(0, v0), (1, v1), (2, v2), (3, v3), (4, v4), (5, v5), (6, v6)] : List (Nat × Value)).filter (fun q => !(q.1 == 6) && !(q.1 + 1 == 6 && q.2.category == 2)) = [(0, v0), (1, v1), (2, v2), (3, v3), (4, v4), (5, v5)] from by simp [h]] at h'
  exact lv_sub h' [1, 2, 3, 4, 5, 6, 0] rfl
theorem kp_7_7 {n : Nat} {v0 v1 v2 v3 v4 v5 v6 x : Value} (h : v6.category = 1) : ∀ ls : Array Slot, lv_has ls n ((7, x) :: (([(0, v0), (1, v1), (2, v2), (3, v3), (4, v4), (5, v5), (6, v6)] : List (Nat × Value)).filter (fun q => !(q.1 == 7) && !(q.1 + 1 == 7 && q.2.category == 2)))) → lv_has ls n [(0, v0), (1, v1), (2, v2), (3, v3), (4, v4), (5, v5), (6, v6), (7, x)] := by
  intro ls h'
  rw [show ([(0, v0), (1, v1), (2, v2), (3, v3), (4, v4), (5, v5), (6, v6)] : List (Nat × Value)).filter (fun q => !(q.1 == 7) && !(q.1 + 1 == 7 && q.2.category == 2)) = [(0, v0), (1, v1), (2, v2), (3, v3), (4, v4), (5, v5), (6, v6)] from by simp [h]] at h'
  exact lv_sub h' [1, 2, 3, 4, 5, 6, 7, 0] rfl
theorem kp_8_0 {n : Nat} {v0 v1 v2 v3 v4 v5 v6 v7 x : Value} : ∀ ls : Array Slot, lv_has ls n ((0, x) :: (([(0, v0), (1, v1), (2, v2), (3, v3), (4, v4), (5, v5), (6, v6), (7, v7)] : List (Nat × Value)).filter (fun q => !(q.1 == 0) && !(q.1 + 1 == 0 && q.2.category == 2)))) → lv_has ls n [(0, x), (1, v1), (2, v2), (3, v3), (4, v4), (5, v5), (6, v6), (7, v7)] := by
  intro ls h'
  rw [show ([(0, v0), (1, v1), (2, v2), (3, v3), (4, v4), (5, v5), (6, v6), (7, v7)] : List (Nat × Value)).filter (fun q => !(q.1 == 0) && !(q.1 + 1 == 0 && q.2.category == 2)) = [(1, v1), (2, v2), (3, v3), (4, v4), (5, v5), (6, v6), (7, v7)] from by simp] at h'
  exact lv_sub h' [0, 1, 2, 3, 4, 5, 6, 7] rfl
theorem kp_8_1 {n : Nat} {v0 v1 v2 v3 v4 v5 v6 v7 x : Value} (h : v0.category = 1) : ∀ ls : Array Slot, lv_has ls n ((1, x) :: (([(0, v0), (1, v1), (2, v2), (3, v3), (4, v4), (5, v5), (6, v6), (7, v7)] : List (Nat × Value)).filter (fun q => !(q.1 == 1) && !(q.1 + 1 == 1 && q.2.category == 2)))) → lv_has ls n [(0, v0), (1, x), (2, v2), (3, v3), (4, v4), (5, v5), (6, v6), (7, v7)] := by
  intro ls h'
  rw [show ([(0, v0), (1, v1), (2, v2), (3, v3), (4, v4), (5, v5), (6, v6), (7, v7)] : List (Nat × Value)).filter (fun q => !(q.1 == 1) && !(q.1 + 1 == 1 && q.2.category == 2)) = [(0, v0), (2, v2), (3, v3), (4, v4), (5, v5), (6, v6), (7, v7)] from by simp [h]] at h'
  exact lv_sub h' [1, 0, 2, 3, 4, 5, 6, 7] rfl
theorem kp_8_2 {n : Nat} {v0 v1 v2 v3 v4 v5 v6 v7 x : Value} (h : v1.category = 1) : ∀ ls : Array Slot, lv_has ls n ((2, x) :: (([(0, v0), (1, v1), (2, v2), (3, v3), (4, v4), (5, v5), (6, v6), (7, v7)] : List (Nat × Value)).filter (fun q => !(q.1 == 2) && !(q.1 + 1 == 2 && q.2.category == 2)))) → lv_has ls n [(0, v0), (1, v1), (2, x), (3, v3), (4, v4), (5, v5), (6, v6), (7, v7)] := by
  intro ls h'
  rw [show ([(0, v0), (1, v1), (2, v2), (3, v3), (4, v4), (5, v5), (6, v6), (7, v7)] : List (Nat × Value)).filter (fun q => !(q.1 == 2) && !(q.1 + 1 == 2 && q.2.category == 2)) = [(0, v0), (1, v1), (3, v3), (4, v4), (5, v5), (6, v6), (7, v7)] from by simp [h]] at h'
  exact lv_sub h' [1, 2, 0, 3, 4, 5, 6, 7] rfl
theorem kp_8_3 {n : Nat} {v0 v1 v2 v3 v4 v5 v6 v7 x : Value} (h : v2.category = 1) : ∀ ls : Array Slot, lv_has ls n ((3, x) :: (([(0, v0), (1, v1), (2, v2), (3, v3), (4, v4), (5, v5), (6, v6), (7, v7)] : List (Nat × Value)).filter (fun q => !(q.1 == 3) && !(q.1 + 1 == 3 && q.2.category == 2)))) → lv_has ls n [(0, v0), (1, v1), (2, v2), (3, x), (4, v4), (5, v5), (6, v6), (7, v7)] := by
  intro ls h'
  rw [show ([(0, v0), (1, v1), (2, v2), (3, v3), (4, v4), (5, v5), (6, v6), (7, v7)] : List (Nat × Value)).filter (fun q => !(q.1 == 3) && !(q.1 + 1 == 3 && q.2.category == 2)) = [(0, v0), (1, v1), (2, v2), (4, v4), (5, v5), (6, v6), (7, v7)] from by simp [h]] at h'
  exact lv_sub h' [1, 2, 3, 0, 4, 5, 6, 7] rfl
theorem kp_8_4 {n : Nat} {v0 v1 v2 v3 v4 v5 v6 v7 x : Value} (h : v3.category = 1) : ∀ ls : Array Slot, lv_has ls n ((4, x) :: (([(0, v0), (1, v1), (2, v2), (3, v3), (4, v4), (5, v5), (6, v6), (7, v7)] : List (Nat × Value)).filter (fun q => !(q.1 == 4) && !(q.1 + 1 == 4 && q.2.category == 2)))) → lv_has ls n [(0, v0), (1, v1), (2, v2), (3, v3), (4, x), (5, v5), (6, v6), (7, v7)] := by
  intro ls h'
  rw [show ([(0, v0), (1, v1), (2, v2), (3, v3), (4, v4), (5, v5), (6, v6), (7, v7)] : List (Nat × Value)).filter (fun q => !(q.1 == 4) && !(q.1 + 1 == 4 && q.2.category == 2)) = [(0, v0), (1, v1), (2, v2), (3, v3), (5, v5), (6, v6), (7, v7)] from by simp [h]] at h'
  exact lv_sub h' [1, 2, 3, 4, 0, 5, 6, 7] rfl
theorem kp_8_5 {n : Nat} {v0 v1 v2 v3 v4 v5 v6 v7 x : Value} (h : v4.category = 1) : ∀ ls : Array Slot, lv_has ls n ((5, x) :: (([(0, v0), (1, v1), (2, v2), (3, v3), (4, v4), (5, v5), (6, v6), (7, v7)] : List (Nat × Value)).filter (fun q => !(q.1 == 5) && !(q.1 + 1 == 5 && q.2.category == 2)))) → lv_has ls n [(0, v0), (1, v1), (2, v2), (3, v3), (4, v4), (5, x), (6, v6), (7, v7)] := by
  intro ls h'
  rw [show ([(0, v0), (1, v1), (2, v2), (3, v3), (4, v4), (5, v5), (6, v6), (7, v7)] : List (Nat × Value)).filter (fun q => !(q.1 == 5) && !(q.1 + 1 == 5 && q.2.category == 2)) = [(0, v0), (1, v1), (2, v2), (3, v3), (4, v4), (6, v6), (7, v7)] from by simp [h]] at h'
  exact lv_sub h' [1, 2, 3, 4, 5, 0, 6, 7] rfl
theorem kp_8_6 {n : Nat} {v0 v1 v2 v3 v4 v5 v6 v7 x : Value} (h : v5.category = 1) : ∀ ls : Array Slot, lv_has ls n ((6, x) :: (([(0, v0), (1, v1), (2, v2), (3, v3), (4, v4), (5, v5), (6, v6), (7, v7)] : List (Nat × Value)).filter (fun q => !(q.1 == 6) && !(q.1 + 1 == 6 && q.2.category == 2)))) → lv_has ls n [(0, v0), (1, v1), (2, v2), (3, v3), (4, v4), (5, v5), (6, x), (7, v7)] := by
  intro ls h'
  rw [show ([(0, v0), (1, v1), (2, v2), (3, v3), (4, v4), (5, v5), (6, v6), (7, v7)] : List (Nat × Value)).filter (fun q => !(q.1 == 6) && !(q.1 + 1 == 6 && q.2.category == 2)) = [(0, v0), (1, v1), (2, v2), (3, v3), (4, v4), (5, v5), (7, v7)] from by simp [h]] at h'
  exact lv_sub h' [1, 2, 3, 4, 5, 6, 0, 7] rfl
theorem kp_8_7 {n : Nat} {v0 v1 v2 v3 v4 v5 v6 v7 x : Value} (h : v6.category = 1) : ∀ ls : Array Slot, lv_has ls n ((7, x) :: (([(0, v0), (1, v1), (2, v2), (3, v3), (4, v4), (5, v5), (6, v6), (7, v7)] : List (Nat × Value)).filter (fun q => !(q.1 == 7) && !(q.1 + 1 == 7 && q.2.category == 2)))) → lv_has ls n [(0, v0), (1, v1), (2, v2), (3, v3), (4, v4), (5, v5), (6, v6), (7, x)] := by
  intro ls h'
  rw [show ([(0, v0), (1, v1), (2, v2), (3, v3), (4, v4), (5, v5), (6, v6), (7, v7)] : List (Nat × Value)).filter (fun q => !(q.1 == 7) && !(q.1 + 1 == 7 && q.2.category == 2)) = [(0, v0), (1, v1), (2, v2), (3, v3), (4, v4), (5, v5), (6, v6)] from by simp [h]] at h'
  exact lv_sub h' [1, 2, 3, 4, 5, 6, 7, 0] rfl
theorem kp_8_8 {n : Nat} {v0 v1 v2 v3 v4 v5 v6 v7 x : Value} (h : v7.category = 1) : ∀ ls : Array Slot, lv_has ls n ((8, x) :: (([(0, v0), (1, v1), (2, v2), (3, v3), (4, v4), (5, v5), (6, v6), (7, v7)] : List (Nat × Value)).filter (fun q => !(q.1 == 8) && !(q.1 + 1 == 8 && q.2.category == 2)))) → lv_has ls n [(0, v0), (1, v1), (2, v2), (3, v3), (4, v4), (5, v5), (6, v6), (7, v7), (8, x)] := by
  intro ls h'
  rw [show ([(0, v0), (1, v1), (2, v2), (3, v3), (4, v4), (5, v5), (6, v6), (7, v7)] : List (Nat × Value)).filter (fun q => !(q.1 == 8) && !(q.1 + 1 == 8 && q.2.category == 2)) = [(0, v0), (1, v1), (2, v2), (3, v3), (4, v4), (5, v5), (6, v6), (7, v7)] from by simp [h]] at h'
  exact lv_sub h' [1, 2, 3, 4, 5, 6, 7, 8, 0] rfl
theorem tb_out {x : Int32} (n : Nat) (hn : n < 1000) (h : ∀ i, i < n + 1 → ¬ x = nI i) : x.toInt < 0 ∨ (n : Int) < x.toInt := by
  rcases Int.lt_or_le x.toInt 0 with q | q
  · exact Or.inl q
  · rcases Int.lt_or_le (n : Int) x.toInt with z | z
    · exact Or.inr z
    · exact absurd (Int32.toInt_inj.mp (by rw [nI_toInt (by omega)]; omega)) (h x.toInt.toNat (by omega))
/-! sums -/
def cn (f : Nat → Nat) : Nat → Nat
  | 0 => 0
  | n + 1 => cn f n + f n
def sm (f : Nat → Int32) : Nat → Int32
  | 0 => 0
  | n + 1 => sm f n + f n
def so (f : Nat → Int32) : Nat → Int32
  | 0 => 0
  | n + 1 => so f n ||| f n
theorem cn_p {f : Nat → Nat} {n x : Nat} (h : x = cn f n) (hf : f n = 1) : x + 1 = cn f (n + 1) := by rw [cn, h, hf]
theorem cn_z {f : Nat → Nat} {n x : Nat} (h : x = cn f n) (hf : f n = 0) : x = cn f (n + 1) := by rw [cn, h, hf]; rfl
theorem cn_le {f : Nat → Nat} {n : Nat} (h : ∀ i, i < n → f i ≤ 1) : cn f n ≤ n := by
  induction n with
  | zero => exact Nat.le_refl 0
  | succ n ih =>
    have h1 := ih (fun i hi => h i (by omega))
    have h2 := h n (by omega)
    rw [cn]; omega
/-- a bit of a set -/
abbrev hw (w : Int32) (k : Nat) : Prop := ¬ (w >>> (nI k &&& 31) &&& nI 1 = 0)
def bt (k : Nat) : Int32 := nI 1 <<< (nI k &&& 31)
/-- the first place that is seen -/
def pf (mo : Nat → Int32) (x : Int32) : Nat → Nat → Int32
  | _, 0 => -1
  | i, k + 1 => if mo i ≤ x then nI i else pf mo x (i + 1) k
end
section
theorem pf_step {mo : Nat → Int32} {x : Int32} {i P : Nat} (hi : i < P) (h : ¬ mo i ≤ x) : pf mo x i (P - i) = pf mo x (i + 1) (P - (i + 1)) := by
  rw [show P - i = (P - (i + 1)) + 1 by omega, pf, if_neg h]
theorem pf_hit {mo : Nat → Int32} {x : Int32} {i P : Nat} (hi : i < P) (h : mo i ≤ x) : pf mo x i (P - i) = nI i := by
  rw [show P - i = (P - (i + 1)) + 1 by omega, pf, if_pos h]
theorem pf_end {mo : Nat → Int32} {x : Int32} {i P : Nat} (hi : P ≤ i) : pf mo x i (P - i) = -1 := by
  rw [show P - i = 0 by omega, pf]
set_option maxHeartbeats 4000000 in
set_option maxRecDepth 100000 in
theorem c_X3_isOpen (l : Launch) {D : va_G} {τ : Nat → ClassId} {ad : Nat → Nat} (hI : kInj ad) {G : Nat → Nat → Int32} {j r : Nat} (hj : j < 7) (hr : r < 40) : kM l yX3_isOpen cX3_isOpen 1 (some .boolean) { frames := 0, cells := 0, slots := 0, locals := 0 } D τ ad [.ref (ad (rN j r))] G (fun v G' => v = (if G (rN j r) 1 = 0 then 1 else 0) ∧ G' = G) := by
  refine kMetZ (own := RX3) (by decide) rfl (Nat.le_of_ble_eq_true rfl) ?_
  intro p9 e9 s9 m9 args9 below9 meth9 c9 Q9 X hx hb hP hS hret ls hl
  have hPs := hP
  have hl : lv_has ls 1 [(0, .ref (ad (rN j r)))] := hl
  refine lv_aload_n hx hb dX3_isOpen_0 rfl (lv_at hl 0 rfl) ?_
  refine kget X hP (oR (by first | assumption | omega) (by first | assumption | omega)) g_X3_15 rfl dX3_isOpen_1 ?_
  first
    | refine kif_ne (tgt := 11) hx hb dX3_isOpen_4 (by decide) (fun c_4 => ?_) (fun c_4 => ?_)
    | refine lv_if_ne (tgt := 11) hx hb dX3_isOpen_4 (by decide) (fun c_4 => ?_) (fun c_4 => ?_)
  · skip
    refine lv_iconst (v := nI 0) hx hb dX3_isOpen_11 (by decide) ?_
    exact hret _ _ _ _ _ _ (by decide) (by refine ⟨?_, rfl⟩; first | exact (if_pos ‹_›).symm | exact (if_neg ‹_›).symm) hP hS dX3_isOpen_12
  · skip
    refine lv_iconst (v := nI 1) hx hb dX3_isOpen_7 (by decide) ?_
    refine lv_goto (tgt := 12) hx hb dX3_isOpen_8 (by decide) ?_
    exact hret _ _ _ _ _ _ (by decide) (by refine ⟨?_, rfl⟩; first | exact (if_pos ‹_›).symm | exact (if_neg ‹_›).symm) hP hS dX3_isOpen_12

set_option maxHeartbeats 4000000 in
set_option maxRecDepth 100000 in
theorem c_X3_isOpenWidow (l : Launch) {D : va_G} {τ : Nat → ClassId} {ad : Nat → Nat} (hI : kInj ad) {G : Nat → Nat → Int32} {j r : Nat} (hj : j < 7) (hr : r < 40) : kM l yX3_isOpenWidow cX3_isOpenWidow 1 (some .boolean) { frames := 0, cells := 0, slots := 0, locals := 0 } D τ ad [.ref (ad (rN j r))] G (fun v G' => v = (if G (rN j r) 1 = 0 ∧ 0 < G (rN j r) 6 then 1 else 0) ∧ G' = G) := by
  refine kMetZ (own := RX3) (by decide) rfl (Nat.le_of_ble_eq_true rfl) ?_
  intro p9 e9 s9 m9 args9 below9 meth9 c9 Q9 X hx hb hP hS hret ls hl
  have hPs := hP
  have hl : lv_has ls 1 [(0, .ref (ad (rN j r)))] := hl
  refine lv_aload_n hx hb dX3_isOpenWidow_0 rfl (lv_at hl 0 rfl) ?_
  refine kget X hP (oR (by first | assumption | omega) (by first | assumption | omega)) g_X3_15 rfl dX3_isOpenWidow_1 ?_
  first
    | refine kif_ne (tgt := 18) hx hb dX3_isOpenWidow_4 (by decide) (fun c_4 => ?_) (fun c_4 => ?_)
    | refine lv_if_ne (tgt := 18) hx hb dX3_isOpenWidow_4 (by decide) (fun c_4 => ?_) (fun c_4 => ?_)
  · skip
    refine lv_iconst (v := nI 0) hx hb dX3_isOpenWidow_18 (by decide) ?_
    exact hret _ _ _ _ _ _ (by decide) (by refine ⟨?_, rfl⟩; first | exact (if_pos ⟨c_4, c_11⟩).symm | exact (if_neg (fun z => c_4 z.1)).symm | exact (if_neg (fun z => Int32.not_le.mpr z.2 c_11)).symm) hP hS dX3_isOpenWidow_19
  · skip
    refine lv_aload_n hx hb dX3_isOpenWidow_7 rfl (lv_at hl 0 rfl) ?_
    refine kget X hP (oR (by first | assumption | omega) (by first | assumption | omega)) g_X3_31 rfl dX3_isOpenWidow_8 ?_
    refine lv_if_le (tgt := 18) hx hb dX3_isOpenWidow_11 (by decide) (fun c_11 => ?_) (fun c_11 => ?_)
    · skip
      refine lv_iconst (v := nI 0) hx hb dX3_isOpenWidow_18 (by decide) ?_
      exact hret _ _ _ _ _ _ (by decide) (by refine ⟨?_, rfl⟩; first | exact (if_pos ⟨c_4, c_11⟩).symm | exact (if_neg (fun z => c_4 z.1)).symm | exact (if_neg (fun z => Int32.not_le.mpr z.2 c_11)).symm) hP hS dX3_isOpenWidow_19
    · skip
      have c_11 := Int32.not_le.mp c_11
      refine lv_iconst (v := nI 1) hx hb dX3_isOpenWidow_14 (by decide) ?_
      refine lv_goto (tgt := 19) hx hb dX3_isOpenWidow_15 (by decide) ?_
      exact hret _ _ _ _ _ _ (by decide) (by refine ⟨?_, rfl⟩; first | exact (if_pos ⟨c_4, c_11⟩).symm | exact (if_neg (fun z => c_4 z.1)).symm | exact (if_neg (fun z => Int32.not_le.mpr z.2 c_11)).symm) hP hS dX3_isOpenWidow_19

set_option maxHeartbeats 4000000 in
set_option maxRecDepth 100000 in
theorem c_X3_paysRent (l : Launch) {D : va_G} {τ : Nat → ClassId} {ad : Nat → Nat} (hI : kInj ad) {G : Nat → Nat → Int32} {j r : Nat} (hj : j < 7) (hr : r < 40) : kM l yX3_paysRent cX3_paysRent 1 (some .boolean) { frames := 0, cells := 0, slots := 0, locals := 0 } D τ ad [.ref (ad (rN j r))] G (fun v G' => v = (if G (rN j r) 1 = 0 ∧ G (rN j r) 6 = 0 then 1 else 0) ∧ G' = G) := by
  refine kMetZ (own := RX3) (by decide) rfl (Nat.le_of_ble_eq_true rfl) ?_
  intro p9 e9 s9 m9 args9 below9 meth9 c9 Q9 X hx hb hP hS hret ls hl
  have hPs := hP
  have hl : lv_has ls 1 [(0, .ref (ad (rN j r)))] := hl
  refine lv_aload_n hx hb dX3_paysRent_0 rfl (lv_at hl 0 rfl) ?_
  refine kget X hP (oR (by first | assumption | omega) (by first | assumption | omega)) g_X3_15 rfl dX3_paysRent_1 ?_
  first
    | refine kif_ne (tgt := 18) hx hb dX3_paysRent_4 (by decide) (fun c_4 => ?_) (fun c_4 => ?_)
    | refine lv_if_ne (tgt := 18) hx hb dX3_paysRent_4 (by decide) (fun c_4 => ?_) (fun c_4 => ?_)
  · skip
    refine lv_iconst (v := nI 0) hx hb dX3_paysRent_18 (by decide) ?_
    exact hret _ _ _ _ _ _ (by decide) (by refine ⟨?_, rfl⟩; first | exact (if_pos ⟨c_4, c_11⟩).symm | exact (if_neg (fun z => c_4 z.1)).symm | exact (if_neg (fun z => c_11 z.2)).symm) hP hS dX3_paysRent_19
  · skip
    refine lv_aload_n hx hb dX3_paysRent_7 rfl (lv_at hl 0 rfl) ?_
    refine kget X hP (oR (by first | assumption | omega) (by first | assumption | omega)) g_X3_31 rfl dX3_paysRent_8 ?_
    first
      | refine kif_ne (tgt := 18) hx hb dX3_paysRent_11 (by decide) (fun c_11 => ?_) (fun c_11 => ?_)
      | refine lv_if_ne (tgt := 18) hx hb dX3_paysRent_11 (by decide) (fun c_11 => ?_) (fun c_11 => ?_)
    · skip
      refine lv_iconst (v := nI 0) hx hb dX3_paysRent_18 (by decide) ?_
      exact hret _ _ _ _ _ _ (by decide) (by refine ⟨?_, rfl⟩; first | exact (if_pos ⟨c_4, c_11⟩).symm | exact (if_neg (fun z => c_4 z.1)).symm | exact (if_neg (fun z => c_11 z.2)).symm) hP hS dX3_paysRent_19
    · skip
      refine lv_iconst (v := nI 1) hx hb dX3_paysRent_14 (by decide) ?_
      refine lv_goto (tgt := 19) hx hb dX3_paysRent_15 (by decide) ?_
      exact hret _ _ _ _ _ _ (by decide) (by refine ⟨?_, rfl⟩; first | exact (if_pos ⟨c_4, c_11⟩).symm | exact (if_neg (fun z => c_4 z.1)).symm | exact (if_neg (fun z => c_11 z.2)).symm) hP hS dX3_paysRent_19

set_option maxHeartbeats 4000000 in
set_option maxRecDepth 100000 in
theorem c_X3_hasWrite (l : Launch) {D : va_G} {τ : Nat → ClassId} {ad : Nat → Nat} (hI : kInj ad) {G : Nat → Nat → Int32} {j r k : Nat} (hj : j < 7) (hr : r < 40) : kM l yX3_hasWrite cX3_hasWrite 2 (some .boolean) { frames := 0, cells := 0, slots := 0, locals := 0 } D τ ad [.ref (ad (rN j r)), .int (nI k)] G (fun v G' => v = (if hw (G (rN j r) 5) k then 1 else 0) ∧ G' = G) := by
  refine kMetZ (own := RX3) (by decide) rfl (Nat.le_of_ble_eq_true rfl) ?_
  intro p9 e9 s9 m9 args9 below9 meth9 c9 Q9 X hx hb hP hS hret ls hl
  have hPs := hP
  have hl : lv_has ls 2 [(0, .ref (ad (rN j r))), (1, .int (nI k))] := hl
  refine lv_aload_n hx hb dX3_hasWrite_0 rfl (lv_at hl 0 rfl) ?_
  refine kget X hP (oR (by first | assumption | omega) (by first | assumption | omega)) g_X3_28 rfl dX3_hasWrite_1 ?_
  refine lv_iload_n hx hb dX3_hasWrite_4 rfl (lv_at hl 1 rfl) ?_
  refine lv_ishr hx hb dX3_hasWrite_5 ?_
  refine lv_iconst (v := nI 1) hx hb dX3_hasWrite_6 (by decide) ?_
  refine lv_iand hx hb dX3_hasWrite_7 ?_
  first
    | refine kif_eq (tgt := 15) hx hb dX3_hasWrite_8 (by decide) (fun c_8 => ?_) (fun c_8 => ?_)
    | refine lv_if_eq (tgt := 15) hx hb dX3_hasWrite_8 (by decide) (fun c_8 => ?_) (fun c_8 => ?_)
  · skip
    refine lv_iconst (v := nI 0) hx hb dX3_hasWrite_15 (by decide) ?_
    exact hret _ _ _ _ _ _ (by decide) (by refine ⟨?_, rfl⟩; first | exact (if_pos c_8).symm | exact (if_neg (fun z => z c_8)).symm) hP hS dX3_hasWrite_16
  · skip
    refine lv_iconst (v := nI 1) hx hb dX3_hasWrite_11 (by decide) ?_
    refine lv_goto (tgt := 16) hx hb dX3_hasWrite_12 (by decide) ?_
    exact hret _ _ _ _ _ _ (by decide) (by refine ⟨?_, rfl⟩; first | exact (if_pos c_8).symm | exact (if_neg (fun z => z c_8)).symm) hP hS dX3_hasWrite_16

set_option maxHeartbeats 4000000 in
set_option maxRecDepth 100000 in
theorem c_X3_putWrite (l : Launch) {D : va_G} {τ : Nat → ClassId} {ad : Nat → Nat} (hI : kInj ad) {G : Nat → Nat → Int32} {j r k : Nat} {x : Int32} (hj : j < 7) (hr : r < 40) (hk : k < 12) : kMv l yX3_putWrite cX3_putWrite 3 { frames := 0, cells := 0, slots := 0, locals := 0 } D τ ad [.ref (ad (rN j r)), .int (nI k), .int x] G (fun G' => G' = gs (gs G (rW j r) k x) (rN j r) 5 (G (rN j r) 5 ||| bt k)) := by
  refine kMetV (own := RX3) (by decide) rfl (Nat.le_of_ble_eq_true rfl) ?_
  intro p9 e9 s9 m9 args9 below9 meth9 c9 Q9 X hx hb hP hS hret ls hl
  have hPs := hP
  have hl : lv_has ls 3 [(0, .ref (ad (rN j r))), (1, .int (nI k)), (2, .int x)] := hl
  refine lv_aload_n hx hb dX3_putWrite_0 rfl (lv_at hl 0 rfl) ?_
  refine kget X hP (oR (by first | assumption | omega) (by first | assumption | omega)) g_X3_9 rfl dX3_putWrite_1 ?_
  refine lv_iload_n hx hb dX3_putWrite_4 rfl (lv_at hl 1 rfl) ?_
  refine lv_iload_n hx hb dX3_putWrite_5 rfl (lv_at hl 2 rfl) ?_
  refine kiast X hI hP hS (aW (by first | assumption | omega) (by first | assumption | omega)) (by first | assumption | omega) dX3_putWrite_6 (fun H locs hP hS => ?_)
  refine lv_aload_n hx hb dX3_putWrite_7 rfl (lv_at hl 0 rfl) ?_
  refine lv_dup hx hb dX3_putWrite_8 rfl ?_
  refine kget X hP (oR (by first | assumption | omega) (by first | assumption | omega)) g_X3_28 rfl dX3_putWrite_9 ?_
  refine lv_iconst (v := nI 1) hx hb dX3_putWrite_12 (by decide) ?_
  refine lv_iload_n hx hb dX3_putWrite_13 rfl (lv_at hl 1 rfl) ?_
  refine lv_ishl hx hb dX3_putWrite_14 ?_
  refine lv_ior hx hb dX3_putWrite_15 ?_
  refine kput X hI hP hS (oR (by first | assumption | omega) (by first | assumption | omega)) g_X3_28 (fun _ => rfl) rfl (fun _ => Nat.le_of_ble_eq_true rfl) rfl rfl dX3_putWrite_16 (fun H locs hP hS => ?_)
  exact hret _ _ _ _ _ (by rw [gs_other (show rN j r ≠ rW j r by unfold rN rW; omega)]; rfl) hP hS dX3_putWrite_19

set_option maxHeartbeats 4000000 in
set_option maxRecDepth 100000 in
theorem c_X3_begin (l : Launch) {D : va_G} {τ : Nat → ClassId} {ad : Nat → Nat} (hI : kInj ad) {G : Nat → Nat → Int32} {j r : Nat} {x y : Int32} (hj : j < 7) (hr : r < 40) : kMv l yX3_begin cX3_begin 3 { frames := 0, cells := 0, slots := 0, locals := 0 } D τ ad [.ref (ad (rN j r)), .int x, .int y] G (fun G' => G' = gs (gs (gs (gs (gs (gs (gs (gs G (rN j r) 1 0) (rN j r) 2 x) (rN j r) 3 y) (rN j r) 4 0) (rN j r) 5 0) (rN j r) 6 0) (rN j r) 7 0) (rN j r) 8 0) := by
  refine kMetV (own := RX3) (by decide) rfl (Nat.le_of_ble_eq_true rfl) ?_
  intro p9 e9 s9 m9 args9 below9 meth9 c9 Q9 X hx hb hP hS hret ls hl
  have hPs := hP
  have hl : lv_has ls 3 [(0, .ref (ad (rN j r))), (1, .int x), (2, .int y)] := hl
  refine lv_aload_n hx hb dX3_begin_0 rfl (lv_at hl 0 rfl) ?_
  refine lv_iconst (v := nI 0) hx hb dX3_begin_1 (by decide) ?_
  refine kput X hI hP hS (oR (by first | assumption | omega) (by first | assumption | omega)) g_X3_15 (fun _ => rfl) rfl (fun _ => Nat.le_of_ble_eq_true rfl) rfl rfl dX3_begin_2 (fun H locs hP hS => ?_)
  refine lv_aload_n hx hb dX3_begin_5 rfl (lv_at hl 0 rfl) ?_
  refine lv_iload_n hx hb dX3_begin_6 rfl (lv_at hl 1 rfl) ?_
  refine kput X hI hP hS (oR (by first | assumption | omega) (by first | assumption | omega)) g_X3_19 (fun _ => rfl) rfl (fun _ => Nat.le_of_ble_eq_true rfl) rfl rfl dX3_begin_7 (fun H locs hP hS => ?_)
  refine lv_aload_n hx hb dX3_begin_10 rfl (lv_at hl 0 rfl) ?_
  refine lv_iload_n hx hb dX3_begin_11 rfl (lv_at hl 2 rfl) ?_
  refine kput X hI hP hS (oR (by first | assumption | omega) (by first | assumption | omega)) g_X3_22 (fun _ => rfl) rfl (fun _ => Nat.le_of_ble_eq_true rfl) rfl rfl dX3_begin_12 (fun H locs hP hS => ?_)
  refine lv_aload_n hx hb dX3_begin_15 rfl (lv_at hl 0 rfl) ?_
  refine lv_iconst (v := nI 0) hx hb dX3_begin_16 (by decide) ?_
  refine kput X hI hP hS (oR (by first | assumption | omega) (by first | assumption | omega)) g_X3_25 (fun _ => rfl) rfl (fun _ => Nat.le_of_ble_eq_true rfl) rfl rfl dX3_begin_17 (fun H locs hP hS => ?_)
  refine lv_aload_n hx hb dX3_begin_20 rfl (lv_at hl 0 rfl) ?_
  refine lv_iconst (v := nI 0) hx hb dX3_begin_21 (by decide) ?_
  refine kput X hI hP hS (oR (by first | assumption | omega) (by first | assumption | omega)) g_X3_28 (fun _ => rfl) rfl (fun _ => Nat.le_of_ble_eq_true rfl) rfl rfl dX3_begin_22 (fun H locs hP hS => ?_)
  refine lv_aload_n hx hb dX3_begin_25 rfl (lv_at hl 0 rfl) ?_
  refine lv_iconst (v := nI 0) hx hb dX3_begin_26 (by decide) ?_
  refine kput X hI hP hS (oR (by first | assumption | omega) (by first | assumption | omega)) g_X3_31 (fun _ => rfl) rfl (fun _ => Nat.le_of_ble_eq_true rfl) rfl rfl dX3_begin_27 (fun H locs hP hS => ?_)
  refine lv_aload_n hx hb dX3_begin_30 rfl (lv_at hl 0 rfl) ?_
  refine lv_iconst (v := nI 0) hx hb dX3_begin_31 (by decide) ?_
  refine kput X hI hP hS (oR (by first | assumption | omega) (by first | assumption | omega)) g_X3_34 (fun _ => rfl) rfl (fun _ => Nat.le_of_ble_eq_true rfl) rfl rfl dX3_begin_32 (fun H locs hP hS => ?_)
  refine lv_aload_n hx hb dX3_begin_35 rfl (lv_at hl 0 rfl) ?_
  refine lv_iconst (v := nI 0) hx hb dX3_begin_36 (by decide) ?_
  refine kput X hI hP hS (oR (by first | assumption | omega) (by first | assumption | omega)) g_X3_37 (fun _ => rfl) rfl (fun _ => Nat.le_of_ble_eq_true rfl) rfl rfl dX3_begin_37 (fun H locs hP hS => ?_)
  exact hret _ _ _ _ _ (by rfl) hP hS dX3_begin_40

set_option maxHeartbeats 4000000 in
set_option maxRecDepth 100000 in
theorem c_X0_placeSeenAt (l : Launch) {D : va_G} {τ : Nat → ClassId} {ad : Nat → Nat} (hI : kInj ad) {G : Nat → Nat → Int32} {j c P : Nat} {x : Int32} (hj : j < 7) (hc : c < 12) (hpl : G (cB j c) 2 = nI P) (hp10 : P ≤ 10) : kM l yX0_placeSeenAt cX0_placeSeenAt 3 (some .int) { frames := 0, cells := 0, slots := 0, locals := 0 } D τ ad [.ref (ad (cB j c)), .int x] G (fun v G' => v = pf (G (cM j c)) x 0 P ∧ G' = G) := by
  refine kMet (own := RX0) (by decide) rfl (Nat.le_of_ble_eq_true rfl) ?_
  intro p9 e9 s9 m9 args9 below9 meth9 c9 Q9 X hx hb hP hS hret ls hl
  have hPs := hP
  have hl : lv_has ls 3 [(0, .ref (ad (cB j c))), (1, .int x)] := hl
  refine lv_iconst (v := nI 0) hx hb dX0_placeSeenAt_0 (by decide) ?_
  refine kist hx hb dX0_placeSeenAt_1 rfl hl (by decide) (kp_2_2 rfl) (fun ls hl => ?_)
  have lp_2 : ∀ (d : Nat) (i : Nat) (H : Heap) (locs : List Loc) (ls : Array Slot), (P - i) < d → (i ≤ P) → (pf (G (cM j c)) x 0 P = pf (G (cM j c)) x i (P - i)) → va_P D vwCl (kW τ ad G) H → va_S (kAd ad) s9.heap H locs → lv_has ls 3 [(0, .ref (ad (cB j c))), (1, .int x), (2, .int (nI i))] → W p9 l e9 { frames := 0, cells := 0, slots := 0, locals := 0 } s9 m9 args9 below9 meth9 c9 H locs 0 0 Q9 (F0 m9 2 ls []) := by
    intro d
    induction d with
    | zero => exact fun _ _ _ _ hd => absurd hd (Nat.not_lt_zero _)
    | succ d ih_2 =>
      intro i H locs ls hd iv_0 iv_1 hP hS hl
      refine lv_iload_n hx hb dX0_placeSeenAt_2 rfl (lv_at hl 2 rfl) ?_
      refine lv_aload_n hx hb dX0_placeSeenAt_3 rfl (lv_at hl 0 rfl) ?_
      refine kget X hP (oC (by first | assumption | omega) (by first | assumption | omega)) g_X0_18 (congrArg (fun z => some (Value.int z)) hpl) dX0_placeSeenAt_4 ?_
      first
        | refine kic_ge (tgt := 28) hx hb dX0_placeSeenAt_7 (by decide) (by with_reducible rfl) (by with_reducible rfl) (by omega) (by omega) (fun c_7 => ?_) (fun c_7 => ?_)
        | refine lv_icmp_ge (tgt := 28) hx hb dX0_placeSeenAt_7 (by decide) (fun c_7 => ?_) (fun c_7 => ?_)
      · skip
        refine lv_iconst (v := (-1)) hx hb dX0_placeSeenAt_28 (by decide) ?_
        exact hret _ _ _ _ _ _ (⟨(iv_1.trans (pf_end (by omega))).symm, rfl⟩) hP hS dX0_placeSeenAt_29
      · skip
        refine lv_aload_n hx hb dX0_placeSeenAt_10 rfl (lv_at hl 0 rfl) ?_
        refine kget X hP (oC (by first | assumption | omega) (by first | assumption | omega)) g_X0_15 rfl dX0_placeSeenAt_11 ?_
        refine lv_iload_n hx hb dX0_placeSeenAt_14 rfl (lv_at hl 2 rfl) ?_
        refine kiald X hP (aM (by first | assumption | omega) (by first | assumption | omega)) (by first | assumption | omega) dX0_placeSeenAt_15 ?_
        refine lv_iload_n hx hb dX0_placeSeenAt_16 rfl (lv_at hl 1 rfl) ?_
        first
          | refine kic_gt (tgt := 22) hx hb dX0_placeSeenAt_17 (by decide) (by with_reducible rfl) (by with_reducible rfl) (by omega) (by omega) (fun c_17 => ?_) (fun c_17 => ?_)
          | refine lv_icmp_gt (tgt := 22) hx hb dX0_placeSeenAt_17 (by decide) (fun c_17 => ?_) (fun c_17 => ?_)
        · skip
          first
            | refine kinc (q := 2) hx hb dX0_placeSeenAt_22 hl rfl (by decide) (kp_3_2 rfl) (fun ls hl => ?_)
            | refine kincG (q := 2) hx hb dX0_placeSeenAt_22 hl rfl (by decide) (kp_3_2 rfl) (fun ls hl => ?_)
          refine lv_goto (tgt := 2) hx hb dX0_placeSeenAt_25 (by decide) ?_
          exact ih_2 _ _ _ _ (by omega) (by omega) (iv_1.trans (pf_step (by omega) (Int32.not_le.mpr c_17))) hP hS (lv_sub hl [0,1,2] rfl)
        · skip
          refine lv_iload_n hx hb dX0_placeSeenAt_20 rfl (lv_at hl 2 rfl) ?_
          exact hret _ _ _ _ _ _ (⟨(iv_1.trans (pf_hit (by omega) (Int32.not_lt.mp c_17))).symm, rfl⟩) hP hS dX0_placeSeenAt_21
  exact lp_2 _ 0 _ _ _ (Nat.lt_succ_self _) (Nat.zero_le _) (rfl) hP hS (lv_sub hl [0,1,2] rfl)

set_option maxHeartbeats 4000000 in
set_option maxRecDepth 100000 in
theorem c_X4_hasReader (l : Launch) {D : va_G} {τ : Nat → ClassId} {ad : Nat → Nat} (hI : kInj ad) {G : Nat → Nat → Int32} {j : Nat} {x : Int32} (hj : j < 7) : kM l yX4_hasReader cX4_hasReader 2 (some .boolean) { frames := 0, cells := 0, slots := 0, locals := 0 } D τ ad [.ref (ad (sB j)), .int x] G (fun v G' => v = (if 0 ≤ x ∧ x < G (sB j) 6 then 1 else 0) ∧ G' = G) := by
  refine kMetZ (own := RX4) (by decide) rfl (Nat.le_of_ble_eq_true rfl) ?_
  intro p9 e9 s9 m9 args9 below9 meth9 c9 Q9 X hx hb hP hS hret ls hl
  have hPs := hP
  have hl : lv_has ls 2 [(0, .ref (ad (sB j))), (1, .int x)] := hl
  refine lv_iload_n hx hb dX4_hasReader_0 rfl (lv_at hl 1 rfl) ?_
  refine lv_if_lt (tgt := 16) hx hb dX4_hasReader_1 (by decide) (fun c_1 => ?_) (fun c_1 => ?_)
  · skip
    refine lv_iconst (v := nI 0) hx hb dX4_hasReader_16 (by decide) ?_
    exact hret _ _ _ _ _ _ (by decide) (by refine ⟨?_, rfl⟩; first | exact (if_pos ⟨Int32.not_lt.mp c_1, Int32.not_le.mp c_9⟩).symm | exact (if_neg (fun z => Int32.not_lt.mpr z.1 c_1)).symm | exact (if_neg (fun z => Int32.not_le.mpr z.2 c_9)).symm) hP hS dX4_hasReader_17
  · skip
    refine lv_iload_n hx hb dX4_hasReader_4 rfl (lv_at hl 1 rfl) ?_
    refine lv_aload_n hx hb dX4_hasReader_5 rfl (lv_at hl 0 rfl) ?_
    refine kget X hP (oS (by first | assumption | omega)) g_X4_44 rfl dX4_hasReader_6 ?_
    first
      | refine kic_ge (tgt := 16) hx hb dX4_hasReader_9 (by decide) (by with_reducible rfl) (by with_reducible rfl) (by omega) (by omega) (fun c_9 => ?_) (fun c_9 => ?_)
      | refine lv_icmp_ge (tgt := 16) hx hb dX4_hasReader_9 (by decide) (fun c_9 => ?_) (fun c_9 => ?_)
    · skip
      refine lv_iconst (v := nI 0) hx hb dX4_hasReader_16 (by decide) ?_
      exact hret _ _ _ _ _ _ (by decide) (by refine ⟨?_, rfl⟩; first | exact (if_pos ⟨Int32.not_lt.mp c_1, Int32.not_le.mp c_9⟩).symm | exact (if_neg (fun z => Int32.not_lt.mpr z.1 c_1)).symm | exact (if_neg (fun z => Int32.not_le.mpr z.2 c_9)).symm) hP hS dX4_hasReader_17
    · skip
      refine lv_iconst (v := nI 1) hx hb dX4_hasReader_12 (by decide) ?_
      refine lv_goto (tgt := 17) hx hb dX4_hasReader_13 (by decide) ?_
      exact hret _ _ _ _ _ _ (by decide) (by refine ⟨?_, rfl⟩; first | exact (if_pos ⟨Int32.not_lt.mp c_1, Int32.not_le.mp c_9⟩).symm | exact (if_neg (fun z => Int32.not_lt.mpr z.1 c_1)).symm | exact (if_neg (fun z => Int32.not_le.mpr z.2 c_9)).symm) hP hS dX4_hasReader_17

set_option maxHeartbeats 4000000 in
set_option maxRecDepth 100000 in
theorem c_X4_readersIn (l : Launch) {D : va_G} {τ : Nat → ClassId} {ad : Nat → Nat} (hI : kInj ad) {G : Nat → Nat → Int32} {j n : Nat} {w : Int32} (hj : j < 7) (hn : G (sB j) 6 = nI n) (hn4 : n ≤ 40) : kM l yX4_readersIn cX4_readersIn 4 (some .int) { frames := 0, cells := 0, slots := 0, locals := 0 } D τ ad [.ref (ad (sB j)), .int w] G (fun v G' => v = nI (cn (fun i => if G (rN j i) 1 = w then 1 else 0) n) ∧ G' = G) := by
  refine kMet (own := RX4) (by decide) rfl (Nat.le_of_ble_eq_true rfl) ?_
  intro p9 e9 s9 m9 args9 below9 meth9 c9 Q9 X hx hb hP hS hret ls hl
  have hPs := hP
  have hl : lv_has ls 4 [(0, .ref (ad (sB j))), (1, .int w)] := hl
  refine lv_iconst (v := nI 0) hx hb dX4_readersIn_0 (by decide) ?_
  refine kist hx hb dX4_readersIn_1 rfl hl (by decide) (kp_2_2 rfl) (fun ls hl => ?_)
  refine lv_iconst (v := nI 0) hx hb dX4_readersIn_2 (by decide) ?_
  refine kist hx hb dX4_readersIn_3 rfl hl (by decide) (kp_3_3 rfl) (fun ls hl => ?_)
  have lp_4 : ∀ (d : Nat) (i x : Nat) (H : Heap) (locs : List Loc) (ls : Array Slot), (n - i) < d → (i ≤ n) → (x = cn (fun i => if G (rN j i) 1 = w then 1 else 0) i) → va_P D vwCl (kW τ ad G) H → va_S (kAd ad) s9.heap H locs → lv_has ls 4 [(0, .ref (ad (sB j))), (1, .int w), (2, .int (nI x)), (3, .int (nI i))] → W p9 l e9 { frames := 0, cells := 0, slots := 0, locals := 0 } s9 m9 args9 below9 meth9 c9 H locs 0 0 Q9 (F0 m9 4 ls []) := by
    intro d
    induction d with
    | zero => exact fun _ _ _ _ _ hd => absurd hd (Nat.not_lt_zero _)
    | succ d ih_4 =>
      intro i x H locs ls hd iv_0 iv_1 hP hS hl
      refine lv_iload_n hx hb dX4_readersIn_4 rfl (lv_at hl 3 rfl) ?_
      refine lv_aload_n hx hb dX4_readersIn_5 rfl (lv_at hl 0 rfl) ?_
      refine kget X hP (oS (by first | assumption | omega)) g_X4_44 (congrArg (fun z => some (Value.int z)) hn) dX4_readersIn_6 ?_
      first
        | refine kic_ge (tgt := 34) hx hb dX4_readersIn_9 (by decide) (by with_reducible rfl) (by with_reducible rfl) (by omega) (by omega) (fun c_9 => ?_) (fun c_9 => ?_)
        | refine lv_icmp_ge (tgt := 34) hx hb dX4_readersIn_9 (by decide) (fun c_9 => ?_) (fun c_9 => ?_)
      · skip
        refine lv_iload_n hx hb dX4_readersIn_34 rfl (lv_at hl 2 rfl) ?_
        exact hret _ _ _ _ _ _ (⟨congrArg nI (iv_1.trans (by rw [show i = n by omega])), rfl⟩) hP hS dX4_readersIn_35
      · skip
        refine lv_aload_n hx hb dX4_readersIn_12 rfl (lv_at hl 0 rfl) ?_
        refine kget X hP (oS (by first | assumption | omega)) g_X4_19 rfl dX4_readersIn_13 ?_
        refine lv_iload_n hx hb dX4_readersIn_16 rfl (lv_at hl 3 rfl) ?_
        refine kaald X hP (qR (by first | assumption | omega)) (by first | assumption | omega) rfl dX4_readersIn_17 ?_
        refine kget X hP (oR (by first | assumption | omega) (by first | assumption | omega)) g_X4_73 rfl dX4_readersIn_18 ?_
        refine lv_iload_n hx hb dX4_readersIn_21 rfl (lv_at hl 1 rfl) ?_
        first
          | refine kic_ne (tgt := 28) hx hb dX4_readersIn_22 (by decide) (by with_reducible rfl) (by with_reducible rfl) (by omega) (by omega) (fun c_22 => ?_) (fun c_22 => ?_)
          | refine lv_icmp_ne (tgt := 28) hx hb dX4_readersIn_22 (by decide) (fun c_22 => ?_) (fun c_22 => ?_)
        · skip
          first
            | refine kinc (q := 3) hx hb dX4_readersIn_28 hl rfl (by decide) (kp_4_3 rfl) (fun ls hl => ?_)
            | refine kincG (q := 3) hx hb dX4_readersIn_28 hl rfl (by decide) (kp_4_3 rfl) (fun ls hl => ?_)
          refine lv_goto (tgt := 4) hx hb dX4_readersIn_31 (by decide) ?_
          exact ih_4 _ _ _ _ _ (by omega) (by omega) (by first | exact cn_p iv_1 (if_pos (by first | assumption | exact ⟨‹_›, ‹_›⟩)) | exact cn_z iv_1 (if_neg (by first | assumption | (intro z; exact absurd z.1 ‹_›) | (intro z; exact absurd z.2 ‹_›)))) hP hS (lv_sub hl [0,1,2,3] rfl)
        · skip
          first
            | refine kinc (q := 2) hx hb dX4_readersIn_25 hl rfl (by decide) (kp_4_2 rfl) (fun ls hl => ?_)
            | refine kincG (q := 2) hx hb dX4_readersIn_25 hl rfl (by decide) (kp_4_2 rfl) (fun ls hl => ?_)
          first
            | refine kinc (q := 3) hx hb dX4_readersIn_28 hl rfl (by decide) (kp_4_3 rfl) (fun ls hl => ?_)
            | refine kincG (q := 3) hx hb dX4_readersIn_28 hl rfl (by decide) (kp_4_3 rfl) (fun ls hl => ?_)
          refine lv_goto (tgt := 4) hx hb dX4_readersIn_31 (by decide) ?_
          exact ih_4 _ _ _ _ _ (by omega) (by omega) (by first | exact cn_p iv_1 (if_pos (by first | assumption | exact ⟨‹_›, ‹_›⟩)) | exact cn_z iv_1 (if_neg (by first | assumption | (intro z; exact absurd z.1 ‹_›) | (intro z; exact absurd z.2 ‹_›)))) hP hS (lv_sub hl [0,1,2,3] rfl)
  exact lp_4 _ 0 0 _ _ _ (Nat.lt_succ_self _) (Nat.zero_le _) (rfl) hP hS (lv_sub hl [0,1,2,3] rfl)
end
section
theorem so_p {f : Nat → Int32} {n : Nat} {x y : Int32} (h : x = so f n) (hf : f n = y) : x ||| y = so f (n + 1) := by rw [so, h, hf]
theorem so_z {f : Nat → Int32} {n : Nat} {x : Int32} (h : x = so f n) (hf : f n = 0) : x = so f (n + 1) := by
  rw [so, h, hf]
  exact (Int32.or_zero).symm
theorem sm_s {f : Nat → Int32} {n : Nat} {x y : Int32} (h : x = sm f n) (hf : f n = y) : x + y = sm f (n + 1) := by rw [sm, h, hf]
theorem cn_mono {f : Nat → Nat} {m n : Nat} (h : m ≤ n) : cn f m ≤ cn f n := by
  induction n with
  | zero => rw [show m = 0 by omega]; exact Nat.le_refl _
  | succ n ih =>
    rcases Nat.lt_or_ge n m with q | q
    · rw [show m = n + 1 by omega]; exact Nat.le_refl _
    · rw [cn]; have := ih q; omega
theorem cn_pos {f : Nat → Nat} {i n : Nat} (h : i < n) (hf : f i ≠ 0) : cn f n ≠ 0 := by
  have h1 : cn f (i + 1) ≤ cn f n := cn_mono h
  rw [cn] at h1
  omega
/-- what a call of placesSeen gathers from one reader -/
def psB (G : Nat → Nat → Int32) (j c P : Nat) (q : Int32) : Nat → Int32 := fun i => if ¬ nI i = q ∧ G (rN j i) 1 = 0 ∧ ¬ pf (G (cM j c)) (G (rN j i) 2) 0 P = -1 then nI 1 <<< (pf (G (cM j c)) (G (rN j i) 2) 0 P &&& 31) else 0
theorem pf_or (mo : Nat → Int32) (x : Int32) (i P : Nat) : pf mo x i P = -1 ∨ ∃ w, w < i + P ∧ pf mo x i P = nI w := by
  induction P generalizing i with
  | zero => exact Or.inl rfl
  | succ P ih =>
    rw [pf]
    by_cases h : mo i ≤ x
    · rw [if_pos h]; exact Or.inr ⟨i, by omega, rfl⟩
    · rw [if_neg h]
      rcases ih (i + 1) with q | ⟨w, q1, q2⟩
      · exact Or.inl q
      · exact Or.inr ⟨w, by omega, q2⟩
def vsF (va mo : Nat → Int32) (x : Int32) (P : Nat) : Int32 := if pf mo x 0 P = -1 then 0 else va (pf mo x 0 P).toNatClampNeg
theorem nI_m1 {w : Nat} (h : w < 2 ^ 31) : ¬ nI w = -1 := fun q => by
  have h1 := congrArg Int32.toInt q
  rw [nI_toInt h] at h1
  rw [show (-1 : Int32).toInt = -1 from rfl] at h1
  omega
theorem vsF_at {va mo : Nat → Int32} {x : Int32} {P w : Nat} (h : pf mo x 0 P = nI w) (hw : w < 2 ^ 31) : vsF va mo x P = va w := by
  rw [vsF, h, if_neg (nI_m1 hw), nI_clamp hw]
def pyF (G : Nat → Nat → Int32) (j n c P : Nat) (q : Int32) : Nat := cn (fun i => if (G (rN j i) 1 = 0 ∧ G (rN j i) 6 = 0) ∧ pf (G (cM j c)) (G (rN j i) 2) 0 P = q then 1 else 0) n
def shF (G : Nat → Nat → Int32) (j n c P : Nat) (q : Int32) : Int32 := if q ≤ 0 then 0 else if nI (pyF G j n c P q) = 0 then 0 else (G (sB j) 5 + nI (pyF G j n c P q) - nI 1) / nI (pyF G j n c P q)
def dueF (G : Nat → Nat → Int32) (j n : Nat) (P : Nat → Nat) (r : Nat) : Int32 := if G (rN j r) 1 = 0 ∧ G (rN j r) 6 = 0 then sm (fun c => shF G j n c (P c) (pf (G (cM j c)) (G (rN j r) 2) 0 (P c))) 12 else 0
def cfF (G : Nat → Nat → Int32) (j r : Nat) : Nat → Nat := fun c => if hw (G (rN j r) 5) c ∧ G (rN j r) 2 < G (cM j c) 0 then 1 else 0
/-- an earlier commit's row and a reader's row: in skew -/
abbrev skF (a b : Nat → Int32) : Prop := b 2 < a 2 ∧ ¬ (b 4 &&& a 3 = 0) ∧ ¬ (a 4 &&& b 5 = 0) ∧ a 3 &&& b 5 = 0
def bc1 (x : Int32) : Int32 := x - ((x.toUInt32 >>> ((nI 1).toUInt32 &&& Int32.toUInt32 31)).toInt32 &&& 1431655765)
def bc2 (x : Int32) : Int32 := (x &&& 858993459) + ((x.toUInt32 >>> ((nI 2).toUInt32 &&& Int32.toUInt32 31)).toInt32 &&& 858993459)
def bc3 (x : Int32) : Int32 := x + (x.toUInt32 >>> ((nI 4).toUInt32 &&& Int32.toUInt32 31)).toInt32 &&& 252645135
def bc4 (x : Int32) : Int32 := x + (x.toUInt32 >>> ((nI 8).toUInt32 &&& Int32.toUInt32 31)).toInt32
def bc5 (x : Int32) : Int32 := x + (x.toUInt32 >>> ((nI 16).toUInt32 &&& Int32.toUInt32 31)).toInt32
def bcF (x : Int32) : Int32 := bc5 (bc4 (bc3 (bc2 (bc1 x)))) &&& nI 63
def ovF (G : Nat → Nat → Int32) (j n r : Nat) (P : Nat → Nat) : Nat → Int32 := fun c => bcF (if hw (G (rN j r) 5) c then so (psB G j c (P c) (nI r)) n else so (psB G j c (P c) (nI r)) n &&& (-2))
set_option maxHeartbeats 4000000 in
set_option maxRecDepth 100000 in
theorem c_J6_bitCount_0f7a4 (l : Launch) {D : va_G} {τ : Nat → ClassId} {ad : Nat → Nat} (hI : kInj ad) {G : Nat → Nat → Int32} {x : Int32} : kM l yJ6_bitCount_0f7a4 cJ6_bitCount_0f7a4 1 (some .int) { frames := 0, cells := 0, slots := 0, locals := 0 } D τ ad [.int x] G (fun v G' => v = bcF x ∧ G' = G) := by
  refine kMet (own := RJ6) (by decide) rfl (Nat.le_of_ble_eq_true rfl) ?_
  intro p9 e9 s9 m9 args9 below9 meth9 c9 Q9 X hx hb hP hS hret ls hl
  have hl : lv_has ls 1 [(0, .int x)] := hl
  refine lv_iload_n hx hb dJ6_bitCount_0f7a4_0 rfl (lv_at hl 0 rfl) ?_
  refine lv_iload_n hx hb dJ6_bitCount_0f7a4_1 rfl (lv_at hl 0 rfl) ?_
  refine lv_iconst (v := nI 1) hx hb dJ6_bitCount_0f7a4_2 (by decide) ?_
  refine lv_iushr hx hb dJ6_bitCount_0f7a4_3 rfl ?_
  refine lv_ldcw (v := 1431655765) hx hb X.2.2.2.1 (X.2.2.2.2.1 (.constant RJ6 265 1431655765) (kWs_of 488 (by decide +kernel) rfl)) dJ6_bitCount_0f7a4_4 ?_
  refine lv_iand hx hb dJ6_bitCount_0f7a4_7 ?_
  refine lv_isub hx hb dJ6_bitCount_0f7a4_8 ?_
  refine kist hx hb dJ6_bitCount_0f7a4_9 rfl hl (by decide) kp_1_0 (fun ls hl => ?_)
  refine lv_iload_n hx hb dJ6_bitCount_0f7a4_10 rfl (lv_at hl 0 rfl) ?_
  refine lv_ldcw (v := 858993459) hx hb X.2.2.2.1 (X.2.2.2.2.1 (.constant RJ6 266 858993459) (kWs_of 489 (by decide +kernel) rfl)) dJ6_bitCount_0f7a4_11 ?_
  refine lv_iand hx hb dJ6_bitCount_0f7a4_14 ?_
  refine lv_iload_n hx hb dJ6_bitCount_0f7a4_15 rfl (lv_at hl 0 rfl) ?_
  refine lv_iconst (v := nI 2) hx hb dJ6_bitCount_0f7a4_16 (by decide) ?_
  refine lv_iushr hx hb dJ6_bitCount_0f7a4_17 rfl ?_
  refine lv_ldcw (v := 858993459) hx hb X.2.2.2.1 (X.2.2.2.2.1 (.constant RJ6 266 858993459) (kWs_of 489 (by decide +kernel) rfl)) dJ6_bitCount_0f7a4_18 ?_
  refine lv_iand hx hb dJ6_bitCount_0f7a4_21 ?_
  refine lv_iadd hx hb dJ6_bitCount_0f7a4_22 ?_
  refine kist hx hb dJ6_bitCount_0f7a4_23 rfl hl (by decide) kp_1_0 (fun ls hl => ?_)
  refine lv_iload_n hx hb dJ6_bitCount_0f7a4_24 rfl (lv_at hl 0 rfl) ?_
  refine lv_iload_n hx hb dJ6_bitCount_0f7a4_25 rfl (lv_at hl 0 rfl) ?_
  refine lv_iconst (v := nI 4) hx hb dJ6_bitCount_0f7a4_26 (by decide) ?_
  refine lv_iushr hx hb dJ6_bitCount_0f7a4_27 rfl ?_
  refine lv_iadd hx hb dJ6_bitCount_0f7a4_28 ?_
  refine lv_ldcw (v := 252645135) hx hb X.2.2.2.1 (X.2.2.2.2.1 (.constant RJ6 267 252645135) (kWs_of 490 (by decide +kernel) rfl)) dJ6_bitCount_0f7a4_29 ?_
  refine lv_iand hx hb dJ6_bitCount_0f7a4_32 ?_
  refine kist hx hb dJ6_bitCount_0f7a4_33 rfl hl (by decide) kp_1_0 (fun ls hl => ?_)
  refine lv_iload_n hx hb dJ6_bitCount_0f7a4_34 rfl (lv_at hl 0 rfl) ?_
  refine lv_iload_n hx hb dJ6_bitCount_0f7a4_35 rfl (lv_at hl 0 rfl) ?_
  refine lv_bipush (v := nI 8) hx hb dJ6_bitCount_0f7a4_36 (by decide) ?_
  refine lv_iushr hx hb dJ6_bitCount_0f7a4_38 rfl ?_
  refine lv_iadd hx hb dJ6_bitCount_0f7a4_39 ?_
  refine kist hx hb dJ6_bitCount_0f7a4_40 rfl hl (by decide) kp_1_0 (fun ls hl => ?_)
  refine lv_iload_n hx hb dJ6_bitCount_0f7a4_41 rfl (lv_at hl 0 rfl) ?_
  refine lv_iload_n hx hb dJ6_bitCount_0f7a4_42 rfl (lv_at hl 0 rfl) ?_
  refine lv_bipush (v := nI 16) hx hb dJ6_bitCount_0f7a4_43 (by decide) ?_
  refine lv_iushr hx hb dJ6_bitCount_0f7a4_45 rfl ?_
  refine lv_iadd hx hb dJ6_bitCount_0f7a4_46 ?_
  refine kist hx hb dJ6_bitCount_0f7a4_47 rfl hl (by decide) kp_1_0 (fun ls hl => ?_)
  refine lv_iload_n hx hb dJ6_bitCount_0f7a4_48 rfl (lv_at hl 0 rfl) ?_
  refine lv_bipush (v := nI 63) hx hb dJ6_bitCount_0f7a4_49 (by decide) ?_
  refine lv_iand hx hb dJ6_bitCount_0f7a4_51 ?_
  exact hret _ _ _ _ _ _ ⟨rfl, rfl⟩ hP hS dJ6_bitCount_0f7a4_52
set_option maxHeartbeats 4000000 in
set_option maxRecDepth 100000 in
theorem c_X4_openWidows (l : Launch) {D : va_G} {τ : Nat → ClassId} {ad : Nat → Nat} (hI : kInj ad) {G : Nat → Nat → Int32} {j n : Nat} (hj : j < 7) (hn : G (sB j) 6 = nI n) (hn4 : n ≤ 40) : kM l yX4_openWidows cX4_openWidows 3 (some .int) { frames := 1, cells := 0, slots := 0, locals := 20 } D τ ad [.ref (ad (sB j))] G (fun v G' => v = nI (cn (fun i => if G (rN j i) 1 = 0 ∧ 0 < G (rN j i) 6 then 1 else 0) n) ∧ G' = G) := by
  refine kMet (own := RX4) (by decide) rfl (Nat.le_of_ble_eq_true rfl) ?_
  intro p9 e9 s9 m9 args9 below9 meth9 c9 Q9 X hx hb hP hS hret ls hl
  have hPs := hP
  have hl : lv_has ls 3 [(0, .ref (ad (sB j)))] := hl
  refine lv_iconst (v := nI 0) hx hb dX4_openWidows_0 (by decide) ?_
  refine kist hx hb dX4_openWidows_1 rfl hl (by decide) (kp_1_1 rfl) (fun ls hl => ?_)
  refine lv_iconst (v := nI 0) hx hb dX4_openWidows_2 (by decide) ?_
  refine kist hx hb dX4_openWidows_3 rfl hl (by decide) (kp_2_2 rfl) (fun ls hl => ?_)
  have lp_4 : ∀ (d : Nat) (i x : Nat) (H : Heap) (locs : List Loc) (ls : Array Slot), (n - i) < d → (i ≤ n) → (x = cn (fun i => if G (rN j i) 1 = 0 ∧ 0 < G (rN j i) 6 then 1 else 0) i) → va_P D vwCl (kW τ ad G) H → va_S (kAd ad) s9.heap H locs → lv_has ls 3 [(0, .ref (ad (sB j))), (1, .int (nI x)), (2, .int (nI i))] → W p9 l e9 { frames := 1, cells := 0, slots := 0, locals := 20 } s9 m9 args9 below9 meth9 c9 H locs 0 0 Q9 (F0 m9 4 ls []) := by
    intro d
    induction d with
    | zero => exact fun _ _ _ _ _ hd => absurd hd (Nat.not_lt_zero _)
    | succ d ih_4 =>
      intro i x H locs ls hd iv_0 iv_1 hP hS hl
      refine lv_iload_n hx hb dX4_openWidows_4 rfl (lv_at hl 2 rfl) ?_
      refine lv_aload_n hx hb dX4_openWidows_5 rfl (lv_at hl 0 rfl) ?_
      refine kget X hP (oS (by first | assumption | omega)) g_X4_44 (congrArg (fun z => some (Value.int z)) hn) dX4_openWidows_6 ?_
      first
        | refine kic_ge (tgt := 33) hx hb dX4_openWidows_9 (by decide) (by with_reducible rfl) (by with_reducible rfl) (by omega) (by omega) (fun c_9 => ?_) (fun c_9 => ?_)
        | refine lv_icmp_ge (tgt := 33) hx hb dX4_openWidows_9 (by decide) (fun c_9 => ?_) (fun c_9 => ?_)
      · skip
        refine lv_iload_n hx hb dX4_openWidows_33 rfl (lv_at hl 1 rfl) ?_
        exact hret _ _ _ _ _ _ (⟨congrArg nI (iv_1.trans (by rw [show i = n by omega])), rfl⟩) hP hS dX4_openWidows_34
      · skip
        refine lv_aload_n hx hb dX4_openWidows_12 rfl (lv_at hl 0 rfl) ?_
        refine kget X hP (oS (by first | assumption | omega)) g_X4_19 rfl dX4_openWidows_13 ?_
        refine lv_iload_n hx hb dX4_openWidows_16 rfl (lv_at hl 2 rfl) ?_
        refine kaald X hP (qR (by first | assumption | omega)) (by first | assumption | omega) rfl dX4_openWidows_17 ?_
        refine kcV X hP hS (c_X3_isOpenWidow l hI (by first | assumption | omega) (by first | assumption | omega)) (oR (by first | assumption | omega) (by first | assumption | omega)) v_X4_76 ⟨Nat.le_of_ble_eq_true rfl, Nat.le_of_ble_eq_true rfl, rfl, rfl⟩ rfl rfl (Nat.le_of_ble_eq_true rfl) hl.1 ⟨Nat.zero_le _, Nat.zero_le _⟩ dX4_openWidows_18 (fun r_18 G_18 H locs hR hP hS => ?_)
        obtain ⟨rfl, hG_18⟩ := hR
        rw [hG_18] at hP
        clear hG_18
        first
          | refine kif_eq (tgt := 27) hx hb dX4_openWidows_21 (by decide) (fun c_21 => ?_) (fun c_21 => ?_)
          | refine lv_if_eq (tgt := 27) hx hb dX4_openWidows_21 (by decide) (fun c_21 => ?_) (fun c_21 => ?_)
        · skip
          first
            | refine kinc (q := 2) hx hb dX4_openWidows_27 hl rfl (by decide) (kp_3_2 rfl) (fun ls hl => ?_)
            | refine kincG (q := 2) hx hb dX4_openWidows_27 hl rfl (by decide) (kp_3_2 rfl) (fun ls hl => ?_)
          refine lv_goto (tgt := 4) hx hb dX4_openWidows_30 (by decide) ?_
          exact ih_4 _ _ _ _ _ (by omega) (by omega) (by first | exact cn_p iv_1 (if_pos (by first | assumption | exact ⟨‹_›, ‹_›⟩)) | exact cn_z iv_1 (if_neg (by first | assumption | (intro z; exact absurd z.1 ‹_›) | (intro z; exact absurd z.2 ‹_›)))) hP hS (lv_sub hl [0,1,2] rfl)
        · skip
          first
            | refine kinc (q := 1) hx hb dX4_openWidows_24 hl rfl (by decide) (kp_3_1 rfl) (fun ls hl => ?_)
            | refine kincG (q := 1) hx hb dX4_openWidows_24 hl rfl (by decide) (kp_3_1 rfl) (fun ls hl => ?_)
          first
            | refine kinc (q := 2) hx hb dX4_openWidows_27 hl rfl (by decide) (kp_3_2 rfl) (fun ls hl => ?_)
            | refine kincG (q := 2) hx hb dX4_openWidows_27 hl rfl (by decide) (kp_3_2 rfl) (fun ls hl => ?_)
          refine lv_goto (tgt := 4) hx hb dX4_openWidows_30 (by decide) ?_
          exact ih_4 _ _ _ _ _ (by omega) (by omega) (by first | exact cn_p iv_1 (if_pos (by first | assumption | exact ⟨‹_›, ‹_›⟩)) | exact cn_z iv_1 (if_neg (by first | assumption | (intro z; exact absurd z.1 ‹_›) | (intro z; exact absurd z.2 ‹_›)))) hP hS (lv_sub hl [0,1,2] rfl)
  exact lp_4 _ 0 0 _ _ _ (Nat.lt_succ_self _) (Nat.zero_le _) (rfl) hP hS (lv_sub hl [0,1,2] rfl)

set_option maxHeartbeats 4000000 in
set_option maxRecDepth 100000 in
theorem c_X4_coinsPaid (l : Launch) {D : va_G} {τ : Nat → ClassId} {ad : Nat → Nat} (hI : kInj ad) {G : Nat → Nat → Int32} {j n : Nat} (hj : j < 7) (hn : G (sB j) 6 = nI n) (hn4 : n ≤ 40) : kM l yX4_coinsPaid cX4_coinsPaid 3 (some .int) { frames := 0, cells := 0, slots := 0, locals := 0 } D τ ad [.ref (ad (sB j))] G (fun v G' => v = sm (fun i => G (rN j i) 7) n ∧ G' = G) := by
  refine kMet (own := RX4) (by decide) rfl (Nat.le_of_ble_eq_true rfl) ?_
  intro p9 e9 s9 m9 args9 below9 meth9 c9 Q9 X hx hb hP hS hret ls hl
  have hPs := hP
  have hl : lv_has ls 3 [(0, .ref (ad (sB j)))] := hl
  refine lv_iconst (v := nI 0) hx hb dX4_coinsPaid_0 (by decide) ?_
  refine kist hx hb dX4_coinsPaid_1 rfl hl (by decide) (kp_1_1 rfl) (fun ls hl => ?_)
  refine lv_iconst (v := nI 0) hx hb dX4_coinsPaid_2 (by decide) ?_
  refine kist hx hb dX4_coinsPaid_3 rfl hl (by decide) (kp_2_2 rfl) (fun ls hl => ?_)
  have lp_4 : ∀ (d : Nat) (i : Nat) (x : Int32) (H : Heap) (locs : List Loc) (ls : Array Slot), (n - i) < d → (i ≤ n) → (x = sm (fun i => G (rN j i) 7) i) → va_P D vwCl (kW τ ad G) H → va_S (kAd ad) s9.heap H locs → lv_has ls 3 [(0, .ref (ad (sB j))), (1, .int x), (2, .int (nI i))] → W p9 l e9 { frames := 0, cells := 0, slots := 0, locals := 0 } s9 m9 args9 below9 meth9 c9 H locs 0 0 Q9 (F0 m9 4 ls []) := by
    intro d
    induction d with
    | zero => exact fun _ _ _ _ _ hd => absurd hd (Nat.not_lt_zero _)
    | succ d ih_4 =>
      intro i x H locs ls hd iv_0 iv_1 hP hS hl
      refine lv_iload_n hx hb dX4_coinsPaid_4 rfl (lv_at hl 2 rfl) ?_
      refine lv_aload_n hx hb dX4_coinsPaid_5 rfl (lv_at hl 0 rfl) ?_
      refine kget X hP (oS (by first | assumption | omega)) g_X4_44 (congrArg (fun z => some (Value.int z)) hn) dX4_coinsPaid_6 ?_
      first
        | refine kic_ge (tgt := 30) hx hb dX4_coinsPaid_9 (by decide) (by with_reducible rfl) (by with_reducible rfl) (by omega) (by omega) (fun c_9 => ?_) (fun c_9 => ?_)
        | refine lv_icmp_ge (tgt := 30) hx hb dX4_coinsPaid_9 (by decide) (fun c_9 => ?_) (fun c_9 => ?_)
      · skip
        refine lv_iload_n hx hb dX4_coinsPaid_30 rfl (lv_at hl 1 rfl) ?_
        exact hret _ _ _ _ _ _ (⟨iv_1.trans (by rw [show i = n by omega]), rfl⟩) hP hS dX4_coinsPaid_31
      · skip
        refine lv_iload_n hx hb dX4_coinsPaid_12 rfl (lv_at hl 1 rfl) ?_
        refine lv_aload_n hx hb dX4_coinsPaid_13 rfl (lv_at hl 0 rfl) ?_
        refine kget X hP (oS (by first | assumption | omega)) g_X4_19 rfl dX4_coinsPaid_14 ?_
        refine lv_iload_n hx hb dX4_coinsPaid_17 rfl (lv_at hl 2 rfl) ?_
        refine kaald X hP (qR (by first | assumption | omega)) (by first | assumption | omega) rfl dX4_coinsPaid_18 ?_
        refine kget X hP (oR (by first | assumption | omega) (by first | assumption | omega)) g_X4_80 rfl dX4_coinsPaid_19 ?_
        first
          | refine kadd hx hb dX4_coinsPaid_22 (by with_reducible rfl) (by with_reducible rfl) ?_
          | refine lv_iadd hx hb dX4_coinsPaid_22 ?_
        refine kist hx hb dX4_coinsPaid_23 rfl hl (by decide) (kp_3_1 rfl) (fun ls hl => ?_)
        first
          | refine kinc (q := 2) hx hb dX4_coinsPaid_24 hl rfl (by decide) (kp_3_2 rfl) (fun ls hl => ?_)
          | refine kincG (q := 2) hx hb dX4_coinsPaid_24 hl rfl (by decide) (kp_3_2 rfl) (fun ls hl => ?_)
        refine lv_goto (tgt := 4) hx hb dX4_coinsPaid_27 (by decide) ?_
        exact ih_4 _ _ _ _ _ (by omega) (by omega) (by rw [iv_1]; rfl) hP hS (lv_sub hl [0,1,2] rfl)
  exact lp_4 _ 0 0 _ _ _ (Nat.lt_succ_self _) (Nat.zero_le _) (rfl) hP hS (lv_sub hl [0,1,2] rfl)

set_option maxHeartbeats 4000000 in
set_option maxRecDepth 100000 in
theorem c_X4_writersOf (l : Launch) {D : va_G} {τ : Nat → ClassId} {ad : Nat → Nat} (hI : kInj ad) {G : Nat → Nat → Int32} {j n c : Nat} (hj : j < 7) (hn : G (sB j) 6 = nI n) (hn4 : n ≤ 40) : kM l yX4_writersOf cX4_writersOf 4 (some .int) { frames := 1, cells := 0, slots := 0, locals := 21 } D τ ad [.ref (ad (sB j)), .int (nI c)] G (fun v G' => v = nI (cn (fun i => if G (rN j i) 1 = 0 ∧ hw (G (rN j i) 5) c then 1 else 0) n) ∧ G' = G) := by
  refine kMet (own := RX4) (by decide) rfl (Nat.le_of_ble_eq_true rfl) ?_
  intro p9 e9 s9 m9 args9 below9 meth9 c9 Q9 X hx hb hP hS hret ls hl
  have hPs := hP
  have hl : lv_has ls 4 [(0, .ref (ad (sB j))), (1, .int (nI c))] := hl
  refine lv_iconst (v := nI 0) hx hb dX4_writersOf_0 (by decide) ?_
  refine kist hx hb dX4_writersOf_1 rfl hl (by decide) (kp_2_2 rfl) (fun ls hl => ?_)
  refine lv_iconst (v := nI 0) hx hb dX4_writersOf_2 (by decide) ?_
  refine kist hx hb dX4_writersOf_3 rfl hl (by decide) (kp_3_3 rfl) (fun ls hl => ?_)
  have lp_4 : ∀ (d : Nat) (i x : Nat) (H : Heap) (locs : List Loc) (ls : Array Slot), (n - i) < d → (i ≤ n) → (x = cn (fun i => if G (rN j i) 1 = 0 ∧ hw (G (rN j i) 5) c then 1 else 0) i) → va_P D vwCl (kW τ ad G) H → va_S (kAd ad) s9.heap H locs → lv_has ls 4 [(0, .ref (ad (sB j))), (1, .int (nI c)), (2, .int (nI x)), (3, .int (nI i))] → W p9 l e9 { frames := 1, cells := 0, slots := 0, locals := 21 } s9 m9 args9 below9 meth9 c9 H locs 0 0 Q9 (F0 m9 4 ls []) := by
    intro d
    induction d with
    | zero => exact fun _ _ _ _ _ hd => absurd hd (Nat.not_lt_zero _)
    | succ d ih_4 =>
      intro i x H locs ls hd iv_0 iv_1 hP hS hl
      refine lv_iload_n hx hb dX4_writersOf_4 rfl (lv_at hl 3 rfl) ?_
      refine lv_aload_n hx hb dX4_writersOf_5 rfl (lv_at hl 0 rfl) ?_
      refine kget X hP (oS (by first | assumption | omega)) g_X4_44 (congrArg (fun z => some (Value.int z)) hn) dX4_writersOf_6 ?_
      first
        | refine kic_ge (tgt := 46) hx hb dX4_writersOf_9 (by decide) (by with_reducible rfl) (by with_reducible rfl) (by omega) (by omega) (fun c_9 => ?_) (fun c_9 => ?_)
        | refine lv_icmp_ge (tgt := 46) hx hb dX4_writersOf_9 (by decide) (fun c_9 => ?_) (fun c_9 => ?_)
      · skip
        refine lv_iload_n hx hb dX4_writersOf_46 rfl (lv_at hl 2 rfl) ?_
        exact hret _ _ _ _ _ _ (⟨congrArg nI (iv_1.trans (by rw [show i = n by omega])), rfl⟩) hP hS dX4_writersOf_47
      · skip
        refine lv_aload_n hx hb dX4_writersOf_12 rfl (lv_at hl 0 rfl) ?_
        refine kget X hP (oS (by first | assumption | omega)) g_X4_19 rfl dX4_writersOf_13 ?_
        refine lv_iload_n hx hb dX4_writersOf_16 rfl (lv_at hl 3 rfl) ?_
        refine kaald X hP (qR (by first | assumption | omega)) (by first | assumption | omega) rfl dX4_writersOf_17 ?_
        refine kcV X hP hS (c_X3_isOpen l hI (by first | assumption | omega) (by first | assumption | omega)) (oR (by first | assumption | omega) (by first | assumption | omega)) v_X4_83 ⟨Nat.le_of_ble_eq_true rfl, Nat.le_of_ble_eq_true rfl, rfl, rfl⟩ rfl rfl (Nat.le_of_ble_eq_true rfl) hl.1 ⟨Nat.zero_le _, Nat.zero_le _⟩ dX4_writersOf_18 (fun r_18 G_18 H locs hR hP hS => ?_)
        obtain ⟨rfl, hG_18⟩ := hR
        rw [hG_18] at hP
        clear hG_18
        first
          | refine kif_eq (tgt := 40) hx hb dX4_writersOf_21 (by decide) (fun c_21 => ?_) (fun c_21 => ?_)
          | refine lv_if_eq (tgt := 40) hx hb dX4_writersOf_21 (by decide) (fun c_21 => ?_) (fun c_21 => ?_)
        · skip
          first
            | refine kinc (q := 3) hx hb dX4_writersOf_40 hl rfl (by decide) (kp_4_3 rfl) (fun ls hl => ?_)
            | refine kincG (q := 3) hx hb dX4_writersOf_40 hl rfl (by decide) (kp_4_3 rfl) (fun ls hl => ?_)
          refine lv_goto (tgt := 4) hx hb dX4_writersOf_43 (by decide) ?_
          exact ih_4 _ _ _ _ _ (by omega) (by omega) (by first | exact cn_p iv_1 (if_pos (⟨c_21, c_34⟩)) | exact cn_z iv_1 (if_neg (fun z => c_21 z.1)) | exact cn_z iv_1 (if_neg (fun z => c_34 z.2))) hP hS (lv_sub hl [0,1,2,3] rfl)
        · skip
          refine lv_aload_n hx hb dX4_writersOf_24 rfl (lv_at hl 0 rfl) ?_
          refine kget X hP (oS (by first | assumption | omega)) g_X4_19 rfl dX4_writersOf_25 ?_
          refine lv_iload_n hx hb dX4_writersOf_28 rfl (lv_at hl 3 rfl) ?_
          refine kaald X hP (qR (by first | assumption | omega)) (by first | assumption | omega) rfl dX4_writersOf_29 ?_
          refine lv_iload_n hx hb dX4_writersOf_30 rfl (lv_at hl 1 rfl) ?_
          refine kcV X hP hS (c_X3_hasWrite l hI (by first | assumption | omega) (by first | assumption | omega)) (oR (by first | assumption | omega) (by first | assumption | omega)) v_X4_86 ⟨Nat.le_of_ble_eq_true rfl, Nat.le_of_ble_eq_true rfl, rfl, rfl⟩ rfl rfl (Nat.le_of_ble_eq_true rfl) hl.1 ⟨Nat.zero_le _, Nat.zero_le _⟩ dX4_writersOf_31 (fun r_31 G_31 H locs hR hP hS => ?_)
          obtain ⟨rfl, hG_31⟩ := hR
          rw [hG_31] at hP
          clear hG_31
          first
            | refine kif_eq (tgt := 40) hx hb dX4_writersOf_34 (by decide) (fun c_34 => ?_) (fun c_34 => ?_)
            | refine lv_if_eq (tgt := 40) hx hb dX4_writersOf_34 (by decide) (fun c_34 => ?_) (fun c_34 => ?_)
          · skip
            first
              | refine kinc (q := 3) hx hb dX4_writersOf_40 hl rfl (by decide) (kp_4_3 rfl) (fun ls hl => ?_)
              | refine kincG (q := 3) hx hb dX4_writersOf_40 hl rfl (by decide) (kp_4_3 rfl) (fun ls hl => ?_)
            refine lv_goto (tgt := 4) hx hb dX4_writersOf_43 (by decide) ?_
            exact ih_4 _ _ _ _ _ (by omega) (by omega) (by first | exact cn_p iv_1 (if_pos (⟨c_21, c_34⟩)) | exact cn_z iv_1 (if_neg (fun z => c_21 z.1)) | exact cn_z iv_1 (if_neg (fun z => c_34 z.2))) hP hS (lv_sub hl [0,1,2,3] rfl)
          · skip
            first
              | refine kinc (q := 2) hx hb dX4_writersOf_37 hl rfl (by decide) (kp_4_2 rfl) (fun ls hl => ?_)
              | refine kincG (q := 2) hx hb dX4_writersOf_37 hl rfl (by decide) (kp_4_2 rfl) (fun ls hl => ?_)
            first
              | refine kinc (q := 3) hx hb dX4_writersOf_40 hl rfl (by decide) (kp_4_3 rfl) (fun ls hl => ?_)
              | refine kincG (q := 3) hx hb dX4_writersOf_40 hl rfl (by decide) (kp_4_3 rfl) (fun ls hl => ?_)
            refine lv_goto (tgt := 4) hx hb dX4_writersOf_43 (by decide) ?_
            exact ih_4 _ _ _ _ _ (by omega) (by omega) (by first | exact cn_p iv_1 (if_pos (⟨c_21, c_34⟩)) | exact cn_z iv_1 (if_neg (fun z => c_21 z.1)) | exact cn_z iv_1 (if_neg (fun z => c_34 z.2))) hP hS (lv_sub hl [0,1,2,3] rfl)
  exact lp_4 _ 0 0 _ _ _ (Nat.lt_succ_self _) (Nat.zero_le _) (rfl) hP hS (lv_sub hl [0,1,2,3] rfl)

set_option maxHeartbeats 4000000 in
set_option maxRecDepth 100000 in
theorem c_X4_seersOf (l : Launch) {D : va_G} {τ : Nat → ClassId} {ad : Nat → Nat} (hI : kInj ad) {G : Nat → Nat → Int32} {j n c P : Nat} {q : Int32} (hj : j < 7) (hn : G (sB j) 6 = nI n) (hn4 : n ≤ 40) (hc : c < 12) (hpl : G (cB j c) 2 = nI P) (hp10 : P ≤ 10) : kM l yX4_seersOf cX4_seersOf 6 (some .int) { frames := 1, cells := 0, slots := 0, locals := 22 } D τ ad [.ref (ad (sB j)), .ref (ad (cB j c)), .int q] G (fun v G' => v = nI (cn (fun i => if G (rN j i) 1 = 0 ∧ pf (G (cM j c)) (G (rN j i) 2) 0 P = q then 1 else 0) n) ∧ G' = G) := by
  refine kMet (own := RX4) (by decide) rfl (Nat.le_of_ble_eq_true rfl) ?_
  intro p9 e9 s9 m9 args9 below9 meth9 c9 Q9 X hx hb hP hS hret ls hl
  have hPs := hP
  have hl : lv_has ls 6 [(0, .ref (ad (sB j))), (1, .ref (ad (cB j c))), (2, .int q)] := hl
  refine lv_iconst (v := nI 0) hx hb dX4_seersOf_0 (by decide) ?_
  refine kist hx hb dX4_seersOf_1 rfl hl (by decide) (kp_3_3 rfl) (fun ls hl => ?_)
  refine lv_iconst (v := nI 0) hx hb dX4_seersOf_2 (by decide) ?_
  refine kistW hx hb dX4_seersOf_3 hl (by decide) (kp_4_4 rfl) (fun ls hl => ?_)
  have lp_5 : ∀ (d : Nat) (i x : Nat) (H : Heap) (locs : List Loc) (ls : Array Slot), (n - i) < d → (i ≤ n) → (x = cn (fun i => if G (rN j i) 1 = 0 ∧ pf (G (cM j c)) (G (rN j i) 2) 0 P = q then 1 else 0) i) → va_P D vwCl (kW τ ad G) H → va_S (kAd ad) s9.heap H locs → lv_has ls 6 [(0, .ref (ad (sB j))), (1, .ref (ad (cB j c))), (2, .int q), (3, .int (nI x)), (4, .int (nI i))] → W p9 l e9 { frames := 1, cells := 0, slots := 0, locals := 22 } s9 m9 args9 below9 meth9 c9 H locs 0 0 Q9 (F0 m9 5 ls []) := by
    intro d
    induction d with
    | zero => exact fun _ _ _ _ _ hd => absurd hd (Nat.not_lt_zero _)
    | succ d ih_5 =>
      intro i x H locs ls hd iv_0 iv_1 hP hS hl
      refine lv_iload hx hb dX4_seersOf_5 (lv_at hl 4 rfl) ?_
      refine lv_aload_n hx hb dX4_seersOf_7 rfl (lv_at hl 0 rfl) ?_
      refine kget X hP (oS (by first | assumption | omega)) g_X4_44 (congrArg (fun z => some (Value.int z)) hn) dX4_seersOf_8 ?_
      first
        | refine kic_ge (tgt := 53) hx hb dX4_seersOf_11 (by decide) (by with_reducible rfl) (by with_reducible rfl) (by omega) (by omega) (fun c_11 => ?_) (fun c_11 => ?_)
        | refine lv_icmp_ge (tgt := 53) hx hb dX4_seersOf_11 (by decide) (fun c_11 => ?_) (fun c_11 => ?_)
      · skip
        refine lv_iload_n hx hb dX4_seersOf_53 rfl (lv_at hl 3 rfl) ?_
        exact hret _ _ _ _ _ _ (⟨congrArg nI (iv_1.trans (by rw [show i = n by omega])), rfl⟩) hP hS dX4_seersOf_54
      · skip
        refine lv_aload_n hx hb dX4_seersOf_14 rfl (lv_at hl 0 rfl) ?_
        refine kget X hP (oS (by first | assumption | omega)) g_X4_19 rfl dX4_seersOf_15 ?_
        refine lv_iload hx hb dX4_seersOf_18 (lv_at hl 4 rfl) ?_
        refine kaald X hP (qR (by first | assumption | omega)) (by first | assumption | omega) rfl dX4_seersOf_20 ?_
        refine kastW hx hb dX4_seersOf_21 hl (by decide) (kp_5_5 rfl) (fun ls hl => ?_)
        refine lv_aload hx hb dX4_seersOf_23 (lv_at hl 5 rfl) ?_
        refine kcV X hP hS (c_X3_isOpen l hI (by first | assumption | omega) (by first | assumption | omega)) (oR (by first | assumption | omega) (by first | assumption | omega)) v_X4_83 ⟨Nat.le_of_ble_eq_true rfl, Nat.le_of_ble_eq_true rfl, rfl, rfl⟩ rfl rfl (Nat.le_of_ble_eq_true rfl) hl.1 ⟨Nat.zero_le _, Nat.zero_le _⟩ dX4_seersOf_25 (fun r_25 G_25 H locs hR hP hS => ?_)
        obtain ⟨rfl, hG_25⟩ := hR
        rw [hG_25] at hP
        clear hG_25
        first
          | refine kif_eq (tgt := 47) hx hb dX4_seersOf_28 (by decide) (fun c_28 => ?_) (fun c_28 => ?_)
          | refine lv_if_eq (tgt := 47) hx hb dX4_seersOf_28 (by decide) (fun c_28 => ?_) (fun c_28 => ?_)
        · skip
          first
            | refine kinc (q := 4) hx hb dX4_seersOf_47 hl rfl (by decide) (kp_6_4 rfl) (fun ls hl => ?_)
            | refine kincG (q := 4) hx hb dX4_seersOf_47 hl rfl (by decide) (kp_6_4 rfl) (fun ls hl => ?_)
          refine lv_goto (tgt := 5) hx hb dX4_seersOf_50 (by decide) ?_
          exact ih_5 _ _ _ _ _ (by omega) (by omega) (by first | exact cn_p iv_1 (if_pos (⟨c_28, c_41⟩)) | exact cn_z iv_1 (if_neg (fun z => c_28 z.1)) | exact cn_z iv_1 (if_neg (fun z => c_41 z.2))) hP hS (lv_sub hl [0,1,2,3,4] rfl)
        · skip
          refine lv_aload_n hx hb dX4_seersOf_31 rfl (lv_at hl 1 rfl) ?_
          refine lv_aload hx hb dX4_seersOf_32 (lv_at hl 5 rfl) ?_
          refine kget X hP (oR (by first | assumption | omega) (by first | assumption | omega)) g_X4_90 rfl dX4_seersOf_34 ?_
          refine kcV X hP hS (c_X0_placeSeenAt l hI (x := G (rN j i) 2) hj hc hpl hp10) (oC (by first | assumption | omega) (by first | assumption | omega)) v_X4_91 ⟨Nat.le_of_ble_eq_true rfl, Nat.le_of_ble_eq_true rfl, rfl, rfl⟩ rfl rfl (Nat.le_of_ble_eq_true rfl) hl.1 ⟨Nat.zero_le _, Nat.zero_le _⟩ dX4_seersOf_37 (fun r_37 G_37 H locs hR hP hS => ?_)
          obtain ⟨rfl, hG_37⟩ := hR
          rw [hG_37] at hP
          clear hG_37
          refine lv_iload_n hx hb dX4_seersOf_40 rfl (lv_at hl 2 rfl) ?_
          first
            | refine kic_ne (tgt := 47) hx hb dX4_seersOf_41 (by decide) (by with_reducible rfl) (by with_reducible rfl) (by omega) (by omega) (fun c_41 => ?_) (fun c_41 => ?_)
            | refine lv_icmp_ne (tgt := 47) hx hb dX4_seersOf_41 (by decide) (fun c_41 => ?_) (fun c_41 => ?_)
          · skip
            first
              | refine kinc (q := 4) hx hb dX4_seersOf_47 hl rfl (by decide) (kp_6_4 rfl) (fun ls hl => ?_)
              | refine kincG (q := 4) hx hb dX4_seersOf_47 hl rfl (by decide) (kp_6_4 rfl) (fun ls hl => ?_)
            refine lv_goto (tgt := 5) hx hb dX4_seersOf_50 (by decide) ?_
            exact ih_5 _ _ _ _ _ (by omega) (by omega) (by first | exact cn_p iv_1 (if_pos (⟨c_28, c_41⟩)) | exact cn_z iv_1 (if_neg (fun z => c_28 z.1)) | exact cn_z iv_1 (if_neg (fun z => c_41 z.2))) hP hS (lv_sub hl [0,1,2,3,4] rfl)
          · skip
            first
              | refine kinc (q := 3) hx hb dX4_seersOf_44 hl rfl (by decide) (kp_6_3 rfl) (fun ls hl => ?_)
              | refine kincG (q := 3) hx hb dX4_seersOf_44 hl rfl (by decide) (kp_6_3 rfl) (fun ls hl => ?_)
            first
              | refine kinc (q := 4) hx hb dX4_seersOf_47 hl rfl (by decide) (kp_6_4 rfl) (fun ls hl => ?_)
              | refine kincG (q := 4) hx hb dX4_seersOf_47 hl rfl (by decide) (kp_6_4 rfl) (fun ls hl => ?_)
            refine lv_goto (tgt := 5) hx hb dX4_seersOf_50 (by decide) ?_
            exact ih_5 _ _ _ _ _ (by omega) (by omega) (by first | exact cn_p iv_1 (if_pos (⟨c_28, c_41⟩)) | exact cn_z iv_1 (if_neg (fun z => c_28 z.1)) | exact cn_z iv_1 (if_neg (fun z => c_41 z.2))) hP hS (lv_sub hl [0,1,2,3,4] rfl)
  exact lp_5 _ 0 0 _ _ _ (Nat.lt_succ_self _) (Nat.zero_le _) (rfl) hP hS (lv_sub hl [0,1,2,3,4] rfl)

set_option maxHeartbeats 4000000 in
set_option maxRecDepth 100000 in
theorem c_X4_payersOf (l : Launch) {D : va_G} {τ : Nat → ClassId} {ad : Nat → Nat} (hI : kInj ad) {G : Nat → Nat → Int32} {j n c P : Nat} {q : Int32} (hj : j < 7) (hn : G (sB j) 6 = nI n) (hn4 : n ≤ 40) (hc : c < 12) (hpl : G (cB j c) 2 = nI P) (hp10 : P ≤ 10) : kM l yX4_payersOf cX4_payersOf 6 (some .int) { frames := 1, cells := 0, slots := 0, locals := 22 } D τ ad [.ref (ad (sB j)), .ref (ad (cB j c)), .int q] G (fun v G' => v = nI (cn (fun i => if (G (rN j i) 1 = 0 ∧ G (rN j i) 6 = 0) ∧ pf (G (cM j c)) (G (rN j i) 2) 0 P = q then 1 else 0) n) ∧ G' = G) := by
  refine kMet (own := RX4) (by decide) rfl (Nat.le_of_ble_eq_true rfl) ?_
  intro p9 e9 s9 m9 args9 below9 meth9 c9 Q9 X hx hb hP hS hret ls hl
  have hPs := hP
  have hl : lv_has ls 6 [(0, .ref (ad (sB j))), (1, .ref (ad (cB j c))), (2, .int q)] := hl
  refine lv_iconst (v := nI 0) hx hb dX4_payersOf_0 (by decide) ?_
  refine kist hx hb dX4_payersOf_1 rfl hl (by decide) (kp_3_3 rfl) (fun ls hl => ?_)
  refine lv_iconst (v := nI 0) hx hb dX4_payersOf_2 (by decide) ?_
  refine kistW hx hb dX4_payersOf_3 hl (by decide) (kp_4_4 rfl) (fun ls hl => ?_)
  have lp_5 : ∀ (d : Nat) (i x : Nat) (H : Heap) (locs : List Loc) (ls : Array Slot), (n - i) < d → (i ≤ n) → (x = cn (fun i => if (G (rN j i) 1 = 0 ∧ G (rN j i) 6 = 0) ∧ pf (G (cM j c)) (G (rN j i) 2) 0 P = q then 1 else 0) i) → va_P D vwCl (kW τ ad G) H → va_S (kAd ad) s9.heap H locs → lv_has ls 6 [(0, .ref (ad (sB j))), (1, .ref (ad (cB j c))), (2, .int q), (3, .int (nI x)), (4, .int (nI i))] → W p9 l e9 { frames := 1, cells := 0, slots := 0, locals := 22 } s9 m9 args9 below9 meth9 c9 H locs 0 0 Q9 (F0 m9 5 ls []) := by
    intro d
    induction d with
    | zero => exact fun _ _ _ _ _ hd => absurd hd (Nat.not_lt_zero _)
    | succ d ih_5 =>
      intro i x H locs ls hd iv_0 iv_1 hP hS hl
      refine lv_iload hx hb dX4_payersOf_5 (lv_at hl 4 rfl) ?_
      refine lv_aload_n hx hb dX4_payersOf_7 rfl (lv_at hl 0 rfl) ?_
      refine kget X hP (oS (by first | assumption | omega)) g_X4_44 (congrArg (fun z => some (Value.int z)) hn) dX4_payersOf_8 ?_
      first
        | refine kic_ge (tgt := 53) hx hb dX4_payersOf_11 (by decide) (by with_reducible rfl) (by with_reducible rfl) (by omega) (by omega) (fun c_11 => ?_) (fun c_11 => ?_)
        | refine lv_icmp_ge (tgt := 53) hx hb dX4_payersOf_11 (by decide) (fun c_11 => ?_) (fun c_11 => ?_)
      · skip
        refine lv_iload_n hx hb dX4_payersOf_53 rfl (lv_at hl 3 rfl) ?_
        exact hret _ _ _ _ _ _ (⟨congrArg nI (iv_1.trans (by rw [show i = n by omega])), rfl⟩) hP hS dX4_payersOf_54
      · skip
        refine lv_aload_n hx hb dX4_payersOf_14 rfl (lv_at hl 0 rfl) ?_
        refine kget X hP (oS (by first | assumption | omega)) g_X4_19 rfl dX4_payersOf_15 ?_
        refine lv_iload hx hb dX4_payersOf_18 (lv_at hl 4 rfl) ?_
        refine kaald X hP (qR (by first | assumption | omega)) (by first | assumption | omega) rfl dX4_payersOf_20 ?_
        refine kastW hx hb dX4_payersOf_21 hl (by decide) (kp_5_5 rfl) (fun ls hl => ?_)
        refine lv_aload hx hb dX4_payersOf_23 (lv_at hl 5 rfl) ?_
        refine kcV X hP hS (c_X3_paysRent l hI (by first | assumption | omega) (by first | assumption | omega)) (oR (by first | assumption | omega) (by first | assumption | omega)) v_X4_95 ⟨Nat.le_of_ble_eq_true rfl, Nat.le_of_ble_eq_true rfl, rfl, rfl⟩ rfl rfl (Nat.le_of_ble_eq_true rfl) hl.1 ⟨Nat.zero_le _, Nat.zero_le _⟩ dX4_payersOf_25 (fun r_25 G_25 H locs hR hP hS => ?_)
        obtain ⟨rfl, hG_25⟩ := hR
        rw [hG_25] at hP
        clear hG_25
        first
          | refine kif_eq (tgt := 47) hx hb dX4_payersOf_28 (by decide) (fun c_28 => ?_) (fun c_28 => ?_)
          | refine lv_if_eq (tgt := 47) hx hb dX4_payersOf_28 (by decide) (fun c_28 => ?_) (fun c_28 => ?_)
        · skip
          first
            | refine kinc (q := 4) hx hb dX4_payersOf_47 hl rfl (by decide) (kp_6_4 rfl) (fun ls hl => ?_)
            | refine kincG (q := 4) hx hb dX4_payersOf_47 hl rfl (by decide) (kp_6_4 rfl) (fun ls hl => ?_)
          refine lv_goto (tgt := 5) hx hb dX4_payersOf_50 (by decide) ?_
          exact ih_5 _ _ _ _ _ (by omega) (by omega) (by first | exact cn_p iv_1 (if_pos (⟨c_28, c_41⟩)) | exact cn_z iv_1 (if_neg (fun z => c_28 z.1)) | exact cn_z iv_1 (if_neg (fun z => c_41 z.2))) hP hS (lv_sub hl [0,1,2,3,4] rfl)
        · skip
          refine lv_aload_n hx hb dX4_payersOf_31 rfl (lv_at hl 1 rfl) ?_
          refine lv_aload hx hb dX4_payersOf_32 (lv_at hl 5 rfl) ?_
          refine kget X hP (oR (by first | assumption | omega) (by first | assumption | omega)) g_X4_90 rfl dX4_payersOf_34 ?_
          refine kcV X hP hS (c_X0_placeSeenAt l hI (x := G (rN j i) 2) hj hc hpl hp10) (oC (by first | assumption | omega) (by first | assumption | omega)) v_X4_91 ⟨Nat.le_of_ble_eq_true rfl, Nat.le_of_ble_eq_true rfl, rfl, rfl⟩ rfl rfl (Nat.le_of_ble_eq_true rfl) hl.1 ⟨Nat.zero_le _, Nat.zero_le _⟩ dX4_payersOf_37 (fun r_37 G_37 H locs hR hP hS => ?_)
          obtain ⟨rfl, hG_37⟩ := hR
          rw [hG_37] at hP
          clear hG_37
          refine lv_iload_n hx hb dX4_payersOf_40 rfl (lv_at hl 2 rfl) ?_
          first
            | refine kic_ne (tgt := 47) hx hb dX4_payersOf_41 (by decide) (by with_reducible rfl) (by with_reducible rfl) (by omega) (by omega) (fun c_41 => ?_) (fun c_41 => ?_)
            | refine lv_icmp_ne (tgt := 47) hx hb dX4_payersOf_41 (by decide) (fun c_41 => ?_) (fun c_41 => ?_)
          · skip
            first
              | refine kinc (q := 4) hx hb dX4_payersOf_47 hl rfl (by decide) (kp_6_4 rfl) (fun ls hl => ?_)
              | refine kincG (q := 4) hx hb dX4_payersOf_47 hl rfl (by decide) (kp_6_4 rfl) (fun ls hl => ?_)
            refine lv_goto (tgt := 5) hx hb dX4_payersOf_50 (by decide) ?_
            exact ih_5 _ _ _ _ _ (by omega) (by omega) (by first | exact cn_p iv_1 (if_pos (⟨c_28, c_41⟩)) | exact cn_z iv_1 (if_neg (fun z => c_28 z.1)) | exact cn_z iv_1 (if_neg (fun z => c_41 z.2))) hP hS (lv_sub hl [0,1,2,3,4] rfl)
          · skip
            first
              | refine kinc (q := 3) hx hb dX4_payersOf_44 hl rfl (by decide) (kp_6_3 rfl) (fun ls hl => ?_)
              | refine kincG (q := 3) hx hb dX4_payersOf_44 hl rfl (by decide) (kp_6_3 rfl) (fun ls hl => ?_)
            first
              | refine kinc (q := 4) hx hb dX4_payersOf_47 hl rfl (by decide) (kp_6_4 rfl) (fun ls hl => ?_)
              | refine kincG (q := 4) hx hb dX4_payersOf_47 hl rfl (by decide) (kp_6_4 rfl) (fun ls hl => ?_)
            refine lv_goto (tgt := 5) hx hb dX4_payersOf_50 (by decide) ?_
            exact ih_5 _ _ _ _ _ (by omega) (by omega) (by first | exact cn_p iv_1 (if_pos (⟨c_28, c_41⟩)) | exact cn_z iv_1 (if_neg (fun z => c_28 z.1)) | exact cn_z iv_1 (if_neg (fun z => c_41 z.2))) hP hS (lv_sub hl [0,1,2,3,4] rfl)
  exact lp_5 _ 0 0 _ _ _ (Nat.lt_succ_self _) (Nat.zero_le _) (rfl) hP hS (lv_sub hl [0,1,2,3,4] rfl)

set_option maxHeartbeats 4000000 in
set_option maxRecDepth 100000 in
theorem c_X4_placesSeen (l : Launch) {D : va_G} {τ : Nat → ClassId} {ad : Nat → Nat} (hI : kInj ad) {G : Nat → Nat → Int32} {j n c P : Nat} {q : Int32} (hj : j < 7) (hn : G (sB j) 6 = nI n) (hn4 : n ≤ 40) (hc : c < 12) (hpl : G (cB j c) 2 = nI P) (hp10 : P ≤ 10) : kM l yX4_placesSeen cX4_placesSeen 6 (some .int) { frames := 1, cells := 0, slots := 0, locals := 22 } D τ ad [.ref (ad (sB j)), .ref (ad (cB j c)), .int q] G (fun v G' => v = so (psB G j c P q) n ∧ G' = G) := by
  refine kMet (own := RX4) (by decide) rfl (Nat.le_of_ble_eq_true rfl) ?_
  intro p9 e9 s9 m9 args9 below9 meth9 c9 Q9 X hx hb hP hS hret ls hl
  have hPs := hP
  have hl : lv_has ls 6 [(0, .ref (ad (sB j))), (1, .ref (ad (cB j c))), (2, .int q)] := hl
  refine lv_iconst (v := nI 0) hx hb dX4_placesSeen_0 (by decide) ?_
  refine kist hx hb dX4_placesSeen_1 rfl hl (by decide) (kp_3_3 rfl) (fun ls hl => ?_)
  refine lv_iconst (v := nI 0) hx hb dX4_placesSeen_2 (by decide) ?_
  refine kistW hx hb dX4_placesSeen_3 hl (by decide) (kp_4_4 rfl) (fun ls hl => ?_)
  have lp_5 : ∀ (d : Nat) (i : Nat) (x : Int32) (H : Heap) (locs : List Loc) (ls : Array Slot), (n - i) < d → (i ≤ n) → (x = so (psB G j c P q) i) → va_P D vwCl (kW τ ad G) H → va_S (kAd ad) s9.heap H locs → lv_has ls 6 [(0, .ref (ad (sB j))), (1, .ref (ad (cB j c))), (2, .int q), (3, .int x), (4, .int (nI i))] → W p9 l e9 { frames := 1, cells := 0, slots := 0, locals := 22 } s9 m9 args9 below9 meth9 c9 H locs 0 0 Q9 (F0 m9 5 ls []) := by
    intro d
    induction d with
    | zero => exact fun _ _ _ _ _ hd => absurd hd (Nat.not_lt_zero _)
    | succ d ih_5 =>
      intro i x H locs ls hd iv_0 iv_1 hP hS hl
      refine lv_iload hx hb dX4_placesSeen_5 (lv_at hl 4 rfl) ?_
      refine lv_aload_n hx hb dX4_placesSeen_7 rfl (lv_at hl 0 rfl) ?_
      refine kget X hP (oS (by first | assumption | omega)) g_X4_44 (congrArg (fun z => some (Value.int z)) hn) dX4_placesSeen_8 ?_
      first
        | refine kic_ge (tgt := 68) hx hb dX4_placesSeen_11 (by decide) (by with_reducible rfl) (by with_reducible rfl) (by omega) (by omega) (fun c_11 => ?_) (fun c_11 => ?_)
        | refine lv_icmp_ge (tgt := 68) hx hb dX4_placesSeen_11 (by decide) (fun c_11 => ?_) (fun c_11 => ?_)
      · skip
        refine lv_iload_n hx hb dX4_placesSeen_68 rfl (lv_at hl 3 rfl) ?_
        exact hret _ _ _ _ _ _ (⟨iv_1.trans (by rw [show i = n by omega]), rfl⟩) hP hS dX4_placesSeen_69
      · skip
        refine lv_iload hx hb dX4_placesSeen_14 (lv_at hl 4 rfl) ?_
        refine lv_iload_n hx hb dX4_placesSeen_16 rfl (lv_at hl 2 rfl) ?_
        first
          | refine kic_eq (tgt := 62) hx hb dX4_placesSeen_17 (by decide) (by with_reducible rfl) (by with_reducible rfl) (by omega) (by omega) (fun c_17 => ?_) (fun c_17 => ?_)
          | refine lv_icmp_eq (tgt := 62) hx hb dX4_placesSeen_17 (by decide) (fun c_17 => ?_) (fun c_17 => ?_)
        · skip
          first
            | refine kinc (q := 4) hx hb dX4_placesSeen_62 hl rfl (by decide) (kp_5_4 rfl) (fun ls hl => ?_)
            | refine kincG (q := 4) hx hb dX4_placesSeen_62 hl rfl (by decide) (kp_5_4 rfl) (fun ls hl => ?_)
          refine lv_goto (tgt := 5) hx hb dX4_placesSeen_65 (by decide) ?_
          exact ih_5 _ _ _ _ _ (by omega) (by omega) (so_z iv_1 (if_neg (fun z => z.1 c_17))) hP hS (lv_sub hl [0,1,2,3,4] rfl)
        · skip
          refine lv_aload_n hx hb dX4_placesSeen_20 rfl (lv_at hl 0 rfl) ?_
          refine kget X hP (oS (by first | assumption | omega)) g_X4_19 rfl dX4_placesSeen_21 ?_
          refine lv_iload hx hb dX4_placesSeen_24 (lv_at hl 4 rfl) ?_
          refine kaald X hP (qR (by first | assumption | omega)) (by first | assumption | omega) rfl dX4_placesSeen_26 ?_
          refine kcV X hP hS (c_X3_isOpen l hI (by first | assumption | omega) (by first | assumption | omega)) (oR (by first | assumption | omega) (by first | assumption | omega)) v_X4_83 ⟨Nat.le_of_ble_eq_true rfl, Nat.le_of_ble_eq_true rfl, rfl, rfl⟩ rfl rfl (Nat.le_of_ble_eq_true rfl) hl.1 ⟨Nat.zero_le _, Nat.zero_le _⟩ dX4_placesSeen_27 (fun r_27 G_27 H locs hR hP hS => ?_)
          obtain ⟨rfl, hG_27⟩ := hR
          rw [hG_27] at hP
          clear hG_27
          first
            | refine kif_eq (tgt := 62) hx hb dX4_placesSeen_30 (by decide) (fun c_30 => ?_) (fun c_30 => ?_)
            | refine lv_if_eq (tgt := 62) hx hb dX4_placesSeen_30 (by decide) (fun c_30 => ?_) (fun c_30 => ?_)
          · skip
            first
              | refine kinc (q := 4) hx hb dX4_placesSeen_62 hl rfl (by decide) (kp_5_4 rfl) (fun ls hl => ?_)
              | refine kincG (q := 4) hx hb dX4_placesSeen_62 hl rfl (by decide) (kp_5_4 rfl) (fun ls hl => ?_)
            refine lv_goto (tgt := 5) hx hb dX4_placesSeen_65 (by decide) ?_
            exact ih_5 _ _ _ _ _ (by omega) (by omega) (so_z iv_1 (if_neg (fun z => c_30 z.2.1))) hP hS (lv_sub hl [0,1,2,3,4] rfl)
          · skip
            refine lv_aload_n hx hb dX4_placesSeen_33 rfl (lv_at hl 1 rfl) ?_
            refine lv_aload_n hx hb dX4_placesSeen_34 rfl (lv_at hl 0 rfl) ?_
            refine kget X hP (oS (by first | assumption | omega)) g_X4_19 rfl dX4_placesSeen_35 ?_
            refine lv_iload hx hb dX4_placesSeen_38 (lv_at hl 4 rfl) ?_
            refine kaald X hP (qR (by first | assumption | omega)) (by first | assumption | omega) rfl dX4_placesSeen_40 ?_
            refine kget X hP (oR (by first | assumption | omega) (by first | assumption | omega)) g_X4_90 rfl dX4_placesSeen_41 ?_
            refine kcV X hP hS (c_X0_placeSeenAt l hI (x := G (rN j i) 2) hj hc hpl hp10) (oC (by first | assumption | omega) (by first | assumption | omega)) v_X4_91 ⟨Nat.le_of_ble_eq_true rfl, Nat.le_of_ble_eq_true rfl, rfl, rfl⟩ rfl rfl (Nat.le_of_ble_eq_true rfl) hl.1 ⟨Nat.zero_le _, Nat.zero_le _⟩ dX4_placesSeen_44 (fun r_44 G_44 H locs hR hP hS => ?_)
            obtain ⟨rfl, hG_44⟩ := hR
            rw [hG_44] at hP
            clear hG_44
            refine kistW hx hb dX4_placesSeen_47 hl (by decide) (kp_5_5 rfl) (fun ls hl => ?_)
            refine lv_iload hx hb dX4_placesSeen_49 (lv_at hl 5 rfl) ?_
            refine lv_iconst (v := (-1)) hx hb dX4_placesSeen_51 (by decide) ?_
            first
              | refine kic_eq (tgt := 62) hx hb dX4_placesSeen_52 (by decide) (by with_reducible rfl) (by with_reducible rfl) (by omega) (by omega) (fun c_52 => ?_) (fun c_52 => ?_)
              | refine lv_icmp_eq (tgt := 62) hx hb dX4_placesSeen_52 (by decide) (fun c_52 => ?_) (fun c_52 => ?_)
            · skip
              first
                | refine kinc (q := 4) hx hb dX4_placesSeen_62 hl rfl (by decide) (kp_6_4 rfl) (fun ls hl => ?_)
                | refine kincG (q := 4) hx hb dX4_placesSeen_62 hl rfl (by decide) (kp_6_4 rfl) (fun ls hl => ?_)
              refine lv_goto (tgt := 5) hx hb dX4_placesSeen_65 (by decide) ?_
              exact ih_5 _ _ _ _ _ (by omega) (by omega) (so_z iv_1 (if_neg (fun z => z.2.2 c_52))) hP hS (lv_sub hl [0,1,2,3,4] rfl)
            · skip
              refine lv_iload_n hx hb dX4_placesSeen_55 rfl (lv_at hl 3 rfl) ?_
              refine lv_iconst (v := nI 1) hx hb dX4_placesSeen_56 (by decide) ?_
              refine lv_iload hx hb dX4_placesSeen_57 (lv_at hl 5 rfl) ?_
              refine lv_ishl hx hb dX4_placesSeen_59 ?_
              refine lv_ior hx hb dX4_placesSeen_60 ?_
              refine kist hx hb dX4_placesSeen_61 rfl hl (by decide) (kp_6_3 rfl) (fun ls hl => ?_)
              first
                | refine kinc (q := 4) hx hb dX4_placesSeen_62 hl rfl (by decide) (kp_6_4 rfl) (fun ls hl => ?_)
                | refine kincG (q := 4) hx hb dX4_placesSeen_62 hl rfl (by decide) (kp_6_4 rfl) (fun ls hl => ?_)
              refine lv_goto (tgt := 5) hx hb dX4_placesSeen_65 (by decide) ?_
              exact ih_5 _ _ _ _ _ (by omega) (by omega) (so_p iv_1 (if_pos (And.intro c_17 (And.intro c_30 c_52)))) hP hS (lv_sub hl [0,1,2,3,4] rfl)
  exact lp_5 _ 0 0 _ _ _ (Nat.lt_succ_self _) (Nat.zero_le _) (rfl) hP hS (lv_sub hl [0,1,2,3,4] rfl)

set_option maxHeartbeats 4000000 in
set_option maxRecDepth 100000 in
theorem c_X4_oldVersions (l : Launch) {D : va_G} {τ : Nat → ClassId} {ad : Nat → Nat} (hI : kInj ad) {G : Nat → Nat → Int32} {j : Nat} {P : Nat → Nat} (hj : j < 7) (hp : ∀ c, c < 12 → G (cB j c) 2 = nI (P c) ∧ 1 ≤ P c) : kM l yX4_oldVersions cX4_oldVersions 3 (some .int) { frames := 0, cells := 0, slots := 0, locals := 0 } D τ ad [.ref (ad (sB j))] G (fun v G' => v = nI (cn (fun c => P c - 1) 12) ∧ G' = G) := by
  refine kMet (own := RX4) (by decide) rfl (Nat.le_of_ble_eq_true rfl) ?_
  intro p9 e9 s9 m9 args9 below9 meth9 c9 Q9 X hx hb hP hS hret ls hl
  have hPs := hP
  have hl : lv_has ls 3 [(0, .ref (ad (sB j)))] := hl
  refine lv_iconst (v := nI 0) hx hb dX4_oldVersions_0 (by decide) ?_
  refine kist hx hb dX4_oldVersions_1 rfl hl (by decide) (kp_1_1 rfl) (fun ls hl => ?_)
  refine lv_iconst (v := nI 0) hx hb dX4_oldVersions_2 (by decide) ?_
  refine kist hx hb dX4_oldVersions_3 rfl hl (by decide) (kp_2_2 rfl) (fun ls hl => ?_)
  have lp_4 : ∀ (d : Nat) (i x : Nat) (H : Heap) (locs : List Loc) (ls : Array Slot), (12 - i) < d → (i ≤ 12) → (x = cn (fun c => P c - 1) i) → va_P D vwCl (kW τ ad G) H → va_S (kAd ad) s9.heap H locs → lv_has ls 3 [(0, .ref (ad (sB j))), (1, .int (nI x)), (2, .int (nI i))] → W p9 l e9 { frames := 0, cells := 0, slots := 0, locals := 0 } s9 m9 args9 below9 meth9 c9 H locs 0 0 Q9 (F0 m9 4 ls []) := by
    intro d
    induction d with
    | zero => exact fun _ _ _ _ _ hd => absurd hd (Nat.not_lt_zero _)
    | succ d ih_4 =>
      intro i x H locs ls hd iv_0 iv_1 hP hS hl
      refine lv_iload_n hx hb dX4_oldVersions_4 rfl (lv_at hl 2 rfl) ?_
      refine lv_bipush (v := nI 12) hx hb dX4_oldVersions_5 (by decide) ?_
      first
        | refine kic_ge (tgt := 30) hx hb dX4_oldVersions_7 (by decide) (by with_reducible rfl) (by with_reducible rfl) (by omega) (by omega) (fun c_7 => ?_) (fun c_7 => ?_)
        | refine lv_icmp_ge (tgt := 30) hx hb dX4_oldVersions_7 (by decide) (fun c_7 => ?_) (fun c_7 => ?_)
      · skip
        refine lv_iload_n hx hb dX4_oldVersions_30 rfl (lv_at hl 1 rfl) ?_
        exact hret _ _ _ _ _ _ (⟨congrArg nI (iv_1.trans (by rw [show i = 12 by omega])), rfl⟩) hP hS dX4_oldVersions_31
      · skip
        refine lv_iload_n hx hb dX4_oldVersions_10 rfl (lv_at hl 1 rfl) ?_
        refine lv_aload_n hx hb dX4_oldVersions_11 rfl (lv_at hl 0 rfl) ?_
        refine kget X hP (oS (by first | assumption | omega)) g_X4_11 rfl dX4_oldVersions_12 ?_
        refine lv_iload_n hx hb dX4_oldVersions_15 rfl (lv_at hl 2 rfl) ?_
        refine kaald X hP (qC (by first | assumption | omega)) (by first | assumption | omega) rfl dX4_oldVersions_16 ?_
        refine kget X hP (oC (by first | assumption | omega) (by first | assumption | omega)) g_X4_98 (congrArg (fun z => some (Value.int z)) (hp _ (by omega)).1) dX4_oldVersions_17 ?_
        refine lv_iconst (v := nI 1) hx hb dX4_oldVersions_20 (by decide) ?_
        refine ksub hx hb dX4_oldVersions_21 (by with_reducible rfl) (by with_reducible rfl) (hp _ (by omega)).2 ?_
        first
          | refine kadd hx hb dX4_oldVersions_22 (by with_reducible rfl) (by with_reducible rfl) ?_
          | refine lv_iadd hx hb dX4_oldVersions_22 ?_
        refine kist hx hb dX4_oldVersions_23 rfl hl (by decide) (kp_3_1 rfl) (fun ls hl => ?_)
        first
          | refine kinc (q := 2) hx hb dX4_oldVersions_24 hl rfl (by decide) (kp_3_2 rfl) (fun ls hl => ?_)
          | refine kincG (q := 2) hx hb dX4_oldVersions_24 hl rfl (by decide) (kp_3_2 rfl) (fun ls hl => ?_)
        refine lv_goto (tgt := 4) hx hb dX4_oldVersions_27 (by decide) ?_
        exact ih_4 _ _ _ _ _ (by omega) (by omega) (by rw [iv_1]; rfl) hP hS (lv_sub hl [0,1,2] rfl)
  exact lp_4 _ 0 0 _ _ _ (Nat.lt_succ_self _) (Nat.zero_le _) (rfl) hP hS (lv_sub hl [0,1,2] rfl)

set_option maxHeartbeats 4000000 in
set_option maxRecDepth 100000 in
theorem c_X4_oldVersionsSeenBy (l : Launch) {D : va_G} {τ : Nat → ClassId} {ad : Nat → Nat} (hI : kInj ad) {G : Nat → Nat → Int32} {j r : Nat} {P : Nat → Nat} (hj : j < 7) (hr : r < 40) (hp : ∀ c, c < 12 → G (cB j c) 2 = nI (P c) ∧ P c ≤ 10) : kM l yX4_oldVersionsSeenBy cX4_oldVersionsSeenBy 4 (some .int) { frames := 1, cells := 0, slots := 0, locals := 22 } D τ ad [.ref (ad (sB j)), .ref (ad (rN j r))] G (fun v G' => v = nI (cn (fun c => if 0 < pf (G (cM j c)) (G (rN j r) 2) 0 (P c) then 1 else 0) 12) ∧ G' = G) := by
  refine kMet (own := RX4) (by decide) rfl (Nat.le_of_ble_eq_true rfl) ?_
  intro p9 e9 s9 m9 args9 below9 meth9 c9 Q9 X hx hb hP hS hret ls hl
  have hPs := hP
  have hl : lv_has ls 4 [(0, .ref (ad (sB j))), (1, .ref (ad (rN j r)))] := hl
  refine lv_iconst (v := nI 0) hx hb dX4_oldVersionsSeenBy_0 (by decide) ?_
  refine kist hx hb dX4_oldVersionsSeenBy_1 rfl hl (by decide) (kp_2_2 rfl) (fun ls hl => ?_)
  refine lv_iconst (v := nI 0) hx hb dX4_oldVersionsSeenBy_2 (by decide) ?_
  refine kist hx hb dX4_oldVersionsSeenBy_3 rfl hl (by decide) (kp_3_3 rfl) (fun ls hl => ?_)
  have lp_4 : ∀ (d : Nat) (i x : Nat) (H : Heap) (locs : List Loc) (ls : Array Slot), (12 - i) < d → (i ≤ 12) → (x = cn (fun c => if 0 < pf (G (cM j c)) (G (rN j r) 2) 0 (P c) then 1 else 0) i) → va_P D vwCl (kW τ ad G) H → va_S (kAd ad) s9.heap H locs → lv_has ls 4 [(0, .ref (ad (sB j))), (1, .ref (ad (rN j r))), (2, .int (nI x)), (3, .int (nI i))] → W p9 l e9 { frames := 1, cells := 0, slots := 0, locals := 22 } s9 m9 args9 below9 meth9 c9 H locs 0 0 Q9 (F0 m9 4 ls []) := by
    intro d
    induction d with
    | zero => exact fun _ _ _ _ _ hd => absurd hd (Nat.not_lt_zero _)
    | succ d ih_4 =>
      intro i x H locs ls hd iv_0 iv_1 hP hS hl
      refine lv_iload_n hx hb dX4_oldVersionsSeenBy_4 rfl (lv_at hl 3 rfl) ?_
      refine lv_bipush (v := nI 12) hx hb dX4_oldVersionsSeenBy_5 (by decide) ?_
      first
        | refine kic_ge (tgt := 35) hx hb dX4_oldVersionsSeenBy_7 (by decide) (by with_reducible rfl) (by with_reducible rfl) (by omega) (by omega) (fun c_7 => ?_) (fun c_7 => ?_)
        | refine lv_icmp_ge (tgt := 35) hx hb dX4_oldVersionsSeenBy_7 (by decide) (fun c_7 => ?_) (fun c_7 => ?_)
      · skip
        refine lv_iload_n hx hb dX4_oldVersionsSeenBy_35 rfl (lv_at hl 2 rfl) ?_
        exact hret _ _ _ _ _ _ (⟨congrArg nI (iv_1.trans (by rw [show i = 12 by omega])), rfl⟩) hP hS dX4_oldVersionsSeenBy_36
      · skip
        refine lv_aload_n hx hb dX4_oldVersionsSeenBy_10 rfl (lv_at hl 0 rfl) ?_
        refine kget X hP (oS (by first | assumption | omega)) g_X4_11 rfl dX4_oldVersionsSeenBy_11 ?_
        refine lv_iload_n hx hb dX4_oldVersionsSeenBy_14 rfl (lv_at hl 3 rfl) ?_
        refine kaald X hP (qC (by first | assumption | omega)) (by first | assumption | omega) rfl dX4_oldVersionsSeenBy_15 ?_
        refine lv_aload_n hx hb dX4_oldVersionsSeenBy_16 rfl (lv_at hl 1 rfl) ?_
        refine kget X hP (oR (by first | assumption | omega) (by first | assumption | omega)) g_X4_90 rfl dX4_oldVersionsSeenBy_17 ?_
        refine kcV X hP hS (c_X0_placeSeenAt l hI (x := G (rN j r) 2) hj (by omega) (hp _ (by omega)).1 (hp _ (by omega)).2) (oC hj (by omega)) v_X4_91 ⟨Nat.le_of_ble_eq_true rfl, Nat.le_of_ble_eq_true rfl, rfl, rfl⟩ rfl rfl (Nat.le_of_ble_eq_true rfl) hl.1 ⟨Nat.zero_le _, Nat.zero_le _⟩ dX4_oldVersionsSeenBy_20 (fun r_20 G_20 H locs hR hP hS => ?_)
        obtain ⟨rfl, hG_20⟩ := hR
        rw [hG_20] at hP
        clear hG_20
        refine lv_if_le (tgt := 29) hx hb dX4_oldVersionsSeenBy_23 (by decide) (fun c_23 => ?_) (fun c_23 => ?_)
        · skip
          first
            | refine kinc (q := 3) hx hb dX4_oldVersionsSeenBy_29 hl rfl (by decide) (kp_4_3 rfl) (fun ls hl => ?_)
            | refine kincG (q := 3) hx hb dX4_oldVersionsSeenBy_29 hl rfl (by decide) (kp_4_3 rfl) (fun ls hl => ?_)
          refine lv_goto (tgt := 4) hx hb dX4_oldVersionsSeenBy_32 (by decide) ?_
          exact ih_4 _ _ _ _ _ (by omega) (by omega) (by first | exact cn_p iv_1 (if_pos (Int32.not_le.mp c_23)) | exact cn_z iv_1 (if_neg (Int32.not_lt.mpr c_23))) hP hS (lv_sub hl [0,1,2,3] rfl)
        · skip
          first
            | refine kinc (q := 2) hx hb dX4_oldVersionsSeenBy_26 hl rfl (by decide) (kp_4_2 rfl) (fun ls hl => ?_)
            | refine kincG (q := 2) hx hb dX4_oldVersionsSeenBy_26 hl rfl (by decide) (kp_4_2 rfl) (fun ls hl => ?_)
          first
            | refine kinc (q := 3) hx hb dX4_oldVersionsSeenBy_29 hl rfl (by decide) (kp_4_3 rfl) (fun ls hl => ?_)
            | refine kincG (q := 3) hx hb dX4_oldVersionsSeenBy_29 hl rfl (by decide) (kp_4_3 rfl) (fun ls hl => ?_)
          refine lv_goto (tgt := 4) hx hb dX4_oldVersionsSeenBy_32 (by decide) ?_
          exact ih_4 _ _ _ _ _ (by omega) (by omega) (by first | exact cn_p iv_1 (if_pos (Int32.not_le.mp c_23)) | exact cn_z iv_1 (if_neg (Int32.not_lt.mpr c_23))) hP hS (lv_sub hl [0,1,2,3] rfl)
  exact lp_4 _ 0 0 _ _ _ (Nat.lt_succ_self _) (Nat.zero_le _) (rfl) hP hS (lv_sub hl [0,1,2,3] rfl)

set_option maxHeartbeats 4000000 in
set_option maxRecDepth 100000 in
theorem c_X0_valueSeenAt (l : Launch) {D : va_G} {τ : Nat → ClassId} {ad : Nat → Nat} (hI : kInj ad) {G : Nat → Nat → Int32} {j c P : Nat} {x : Int32} (hj : j < 7) (hc : c < 12) (hpl : G (cB j c) 2 = nI P) (hp10 : P ≤ 10) : kM l yX0_valueSeenAt cX0_valueSeenAt 3 (some .int) { frames := 1, cells := 0, slots := 0, locals := 22 } D τ ad [.ref (ad (cB j c)), .int x] G (fun v G' => v = vsF (G (cV j c)) (G (cM j c)) x P ∧ G' = G) := by
  refine kMet (own := RX0) (by decide) rfl (Nat.le_of_ble_eq_true rfl) ?_
  intro p9 e9 s9 m9 args9 below9 meth9 c9 Q9 X hx hb hP hS hret ls hl
  have hPs := hP
  have hl : lv_has ls 3 [(0, .ref (ad (cB j c))), (1, .int x)] := hl
  refine lv_aload_n hx hb dX0_valueSeenAt_0 rfl (lv_at hl 0 rfl) ?_
  refine lv_iload_n hx hb dX0_valueSeenAt_1 rfl (lv_at hl 1 rfl) ?_
  refine kcV X hP hS (c_X0_placeSeenAt l hI hj hc hpl hp10) (oC (by first | assumption | omega) (by first | assumption | omega)) v_X0_28 ⟨Nat.le_of_ble_eq_true rfl, Nat.le_of_ble_eq_true rfl, rfl, rfl⟩ rfl rfl (Nat.le_of_ble_eq_true rfl) hl.1 ⟨Nat.zero_le _, Nat.zero_le _⟩ dX0_valueSeenAt_2 (fun r_2 G_2 H locs hR hP hS => ?_)
  obtain ⟨rfl, hG_2⟩ := hR
  rw [hG_2] at hP
  clear hG_2
  refine kist hx hb dX0_valueSeenAt_5 rfl hl (by decide) (kp_2_2 rfl) (fun ls hl => ?_)
  refine lv_iload_n hx hb dX0_valueSeenAt_6 rfl (lv_at hl 2 rfl) ?_
  refine lv_iconst (v := (-1)) hx hb dX0_valueSeenAt_7 (by decide) ?_
  first
    | refine kic_ne (tgt := 15) hx hb dX0_valueSeenAt_8 (by decide) (by with_reducible rfl) (by with_reducible rfl) (by omega) (by omega) (fun c_8 => ?_) (fun c_8 => ?_)
    | refine lv_icmp_ne (tgt := 15) hx hb dX0_valueSeenAt_8 (by decide) (fun c_8 => ?_) (fun c_8 => ?_)
  · skip
    obtain ⟨w, hw1, hw2⟩ := (pf_or (G (cM j c)) x 0 P).resolve_left c_8
    rw [hw2] at hl
    refine lv_aload_n hx hb dX0_valueSeenAt_15 rfl (lv_at hl 0 rfl) ?_
    refine kget X hP (oC (by first | assumption | omega) (by first | assumption | omega)) g_X0_9 rfl dX0_valueSeenAt_16 ?_
    refine lv_iload_n hx hb dX0_valueSeenAt_19 rfl (lv_at hl 2 rfl) ?_
    refine kiald X hP (aV (by first | assumption | omega) (by first | assumption | omega)) (by omega) dX0_valueSeenAt_20 ?_
    exact hret _ _ _ _ _ _ (by refine ⟨?_, rfl⟩; first | exact (if_pos c_8).symm | exact (vsF_at hw2 (by omega)).symm) hP hS dX0_valueSeenAt_21
  · skip
    refine lv_iconst (v := nI 0) hx hb dX0_valueSeenAt_11 (by decide) ?_
    refine lv_goto (tgt := 21) hx hb dX0_valueSeenAt_12 (by decide) ?_
    exact hret _ _ _ _ _ _ (by refine ⟨?_, rfl⟩; first | exact (if_pos c_8).symm | exact (vsF_at hw2 (by omega)).symm) hP hS dX0_valueSeenAt_21

set_option maxHeartbeats 4000000 in
set_option maxRecDepth 100000 in
theorem c_X4_sumSeenBy (l : Launch) {D : va_G} {τ : Nat → ClassId} {ad : Nat → Nat} (hI : kInj ad) {G : Nat → Nat → Int32} {j r : Nat} {P : Nat → Nat} (hj : j < 7) (hr : r < 40) (hp : ∀ c, c < 12 → G (cB j c) 2 = nI (P c) ∧ P c ≤ 10) : kM l yX4_sumSeenBy cX4_sumSeenBy 4 (some .int) { frames := 2, cells := 0, slots := 0, locals := 44 } D τ ad [.ref (ad (sB j)), .ref (ad (rN j r))] G (fun v G' => v = sm (fun c => vsF (G (cV j c)) (G (cM j c)) (G (rN j r) 2) (P c)) 12 ∧ G' = G) := by
  refine kMet (own := RX4) (by decide) rfl (Nat.le_of_ble_eq_true rfl) ?_
  intro p9 e9 s9 m9 args9 below9 meth9 c9 Q9 X hx hb hP hS hret ls hl
  have hPs := hP
  have hl : lv_has ls 4 [(0, .ref (ad (sB j))), (1, .ref (ad (rN j r)))] := hl
  refine lv_iconst (v := nI 0) hx hb dX4_sumSeenBy_0 (by decide) ?_
  refine kist hx hb dX4_sumSeenBy_1 rfl hl (by decide) (kp_2_2 rfl) (fun ls hl => ?_)
  refine lv_iconst (v := nI 0) hx hb dX4_sumSeenBy_2 (by decide) ?_
  refine kist hx hb dX4_sumSeenBy_3 rfl hl (by decide) (kp_3_3 rfl) (fun ls hl => ?_)
  have lp_4 : ∀ (d : Nat) (i : Nat) (x : Int32) (H : Heap) (locs : List Loc) (ls : Array Slot), (12 - i) < d → (i ≤ 12) → (x = sm (fun c => vsF (G (cV j c)) (G (cM j c)) (G (rN j r) 2) (P c)) i) → va_P D vwCl (kW τ ad G) H → va_S (kAd ad) s9.heap H locs → lv_has ls 4 [(0, .ref (ad (sB j))), (1, .ref (ad (rN j r))), (2, .int x), (3, .int (nI i))] → W p9 l e9 { frames := 2, cells := 0, slots := 0, locals := 44 } s9 m9 args9 below9 meth9 c9 H locs 0 0 Q9 (F0 m9 4 ls []) := by
    intro d
    induction d with
    | zero => exact fun _ _ _ _ _ hd => absurd hd (Nat.not_lt_zero _)
    | succ d ih_4 =>
      intro i x H locs ls hd iv_0 iv_1 hP hS hl
      refine lv_iload_n hx hb dX4_sumSeenBy_4 rfl (lv_at hl 3 rfl) ?_
      refine lv_bipush (v := nI 12) hx hb dX4_sumSeenBy_5 (by decide) ?_
      first
        | refine kic_ge (tgt := 32) hx hb dX4_sumSeenBy_7 (by decide) (by with_reducible rfl) (by with_reducible rfl) (by omega) (by omega) (fun c_7 => ?_) (fun c_7 => ?_)
        | refine lv_icmp_ge (tgt := 32) hx hb dX4_sumSeenBy_7 (by decide) (fun c_7 => ?_) (fun c_7 => ?_)
      · skip
        refine lv_iload_n hx hb dX4_sumSeenBy_32 rfl (lv_at hl 2 rfl) ?_
        exact hret _ _ _ _ _ _ (⟨iv_1.trans (by rw [show i = 12 by omega]), rfl⟩) hP hS dX4_sumSeenBy_33
      · skip
        refine lv_iload_n hx hb dX4_sumSeenBy_10 rfl (lv_at hl 2 rfl) ?_
        refine lv_aload_n hx hb dX4_sumSeenBy_11 rfl (lv_at hl 0 rfl) ?_
        refine kget X hP (oS (by first | assumption | omega)) g_X4_11 rfl dX4_sumSeenBy_12 ?_
        refine lv_iload_n hx hb dX4_sumSeenBy_15 rfl (lv_at hl 3 rfl) ?_
        refine kaald X hP (qC (by first | assumption | omega)) (by first | assumption | omega) rfl dX4_sumSeenBy_16 ?_
        refine lv_aload_n hx hb dX4_sumSeenBy_17 rfl (lv_at hl 1 rfl) ?_
        refine kget X hP (oR (by first | assumption | omega) (by first | assumption | omega)) g_X4_90 rfl dX4_sumSeenBy_18 ?_
        refine kcV X hP hS (c_X0_valueSeenAt l hI (x := G (rN j r) 2) hj (by omega) (hp _ (by omega)).1 (hp _ (by omega)).2) (oC hj (by omega)) v_X4_101 ⟨Nat.le_of_ble_eq_true rfl, Nat.le_of_ble_eq_true rfl, rfl, rfl⟩ rfl rfl (Nat.le_of_ble_eq_true rfl) hl.1 ⟨Nat.zero_le _, Nat.zero_le _⟩ dX4_sumSeenBy_21 (fun r_21 G_21 H locs hR hP hS => ?_)
        obtain ⟨rfl, hG_21⟩ := hR
        rw [hG_21] at hP
        clear hG_21
        first
          | refine kadd hx hb dX4_sumSeenBy_24 (by with_reducible rfl) (by with_reducible rfl) ?_
          | refine lv_iadd hx hb dX4_sumSeenBy_24 ?_
        refine kist hx hb dX4_sumSeenBy_25 rfl hl (by decide) (kp_4_2 rfl) (fun ls hl => ?_)
        first
          | refine kinc (q := 3) hx hb dX4_sumSeenBy_26 hl rfl (by decide) (kp_4_3 rfl) (fun ls hl => ?_)
          | refine kincG (q := 3) hx hb dX4_sumSeenBy_26 hl rfl (by decide) (kp_4_3 rfl) (fun ls hl => ?_)
        refine lv_goto (tgt := 4) hx hb dX4_sumSeenBy_29 (by decide) ?_
        exact ih_4 _ _ _ _ _ (by omega) (by omega) (by rw [iv_1]; rfl) hP hS (lv_sub hl [0,1,2,3] rfl)
  exact lp_4 _ 0 0 _ _ _ (Nat.lt_succ_self _) (Nat.zero_le _) (rfl) hP hS (lv_sub hl [0,1,2,3] rfl)

set_option maxHeartbeats 4000000 in
set_option maxRecDepth 100000 in
theorem c_X4_shareOf (l : Launch) {D : va_G} {τ : Nat → ClassId} {ad : Nat → Nat} (hI : kInj ad) {G : Nat → Nat → Int32} {j n c P : Nat} {q : Int32} (hj : j < 7) (hn : G (sB j) 6 = nI n) (hn4 : n ≤ 40) (hc : c < 12) (hpl : G (cB j c) 2 = nI P) (hp10 : P ≤ 10) : kM l yX4_shareOf cX4_shareOf 4 (some .int) { frames := 2, cells := 0, slots := 0, locals := 47 } D τ ad [.ref (ad (sB j)), .ref (ad (cB j c)), .int q] G (fun v G' => v = shF G j n c P q ∧ G' = G) := by
  refine kMet (own := RX4) (by decide) rfl (Nat.le_of_ble_eq_true rfl) ?_
  intro p9 e9 s9 m9 args9 below9 meth9 c9 Q9 X hx hb hP hS hret ls hl
  have hPs := hP
  have hl : lv_has ls 4 [(0, .ref (ad (sB j))), (1, .ref (ad (cB j c))), (2, .int q)] := hl
  refine lv_iload_n hx hb dX4_shareOf_0 rfl (lv_at hl 2 rfl) ?_
  refine lv_if_gt (tgt := 6) hx hb dX4_shareOf_1 (by decide) (fun c_1 => ?_) (fun c_1 => ?_)
  · skip
    refine lv_aload_n hx hb dX4_shareOf_6 rfl (lv_at hl 0 rfl) ?_
    refine lv_aload_n hx hb dX4_shareOf_7 rfl (lv_at hl 1 rfl) ?_
    refine lv_iload_n hx hb dX4_shareOf_8 rfl (lv_at hl 2 rfl) ?_
    refine kcV X hP hS (c_X4_payersOf l hI hj hn hn4 hc hpl hp10) (oS (by first | assumption | omega)) v_X4_111 ⟨Nat.le_of_ble_eq_true rfl, Nat.le_of_ble_eq_true rfl, rfl, rfl⟩ rfl rfl (Nat.le_of_ble_eq_true rfl) hl.1 ⟨Nat.zero_le _, Nat.zero_le _⟩ dX4_shareOf_9 (fun r_9 G_9 H locs hR hP hS => ?_)
    obtain ⟨rfl, hG_9⟩ := hR
    rw [hG_9] at hP
    clear hG_9
    refine kist hx hb dX4_shareOf_12 rfl hl (by decide) (kp_3_3 rfl) (fun ls hl => ?_)
    refine lv_iload_n hx hb dX4_shareOf_13 rfl (lv_at hl 3 rfl) ?_
    first
      | refine kif_ne (tgt := 21) hx hb dX4_shareOf_14 (by decide) (fun c_14 => ?_) (fun c_14 => ?_)
      | refine lv_if_ne (tgt := 21) hx hb dX4_shareOf_14 (by decide) (fun c_14 => ?_) (fun c_14 => ?_)
    · skip
      have hne : ¬ nI (pyF G j n c P q) = 0 := c_14
      refine lv_aload_n hx hb dX4_shareOf_21 rfl (lv_at hl 0 rfl) ?_
      refine kget X hP (oS (by first | assumption | omega)) g_X4_29 rfl dX4_shareOf_22 ?_
      refine lv_iload_n hx hb dX4_shareOf_25 rfl (lv_at hl 3 rfl) ?_
      first
        | refine kadd hx hb dX4_shareOf_26 (by with_reducible rfl) (by with_reducible rfl) ?_
        | refine lv_iadd hx hb dX4_shareOf_26 ?_
      refine lv_iconst (v := nI 1) hx hb dX4_shareOf_27 (by decide) ?_
      first
        | refine ksub hx hb dX4_shareOf_28 (by with_reducible rfl) (by with_reducible rfl) (by omega) ?_
        | refine lv_isub hx hb dX4_shareOf_28 ?_
      refine lv_iload_n hx hb dX4_shareOf_29 rfl (lv_at hl 3 rfl) ?_
      refine lv_idiv hx hb dX4_shareOf_30 hne ?_
      exact hret _ _ _ _ _ _ (by refine ⟨?_, rfl⟩; first | exact ((if_neg (Int32.not_le.mpr c_1)).trans (if_pos c_14)).symm | exact ((if_neg (Int32.not_le.mpr c_1)).trans (if_neg c_14)).symm) hP hS dX4_shareOf_31
    · skip
      refine lv_iconst (v := nI 0) hx hb dX4_shareOf_17 (by decide) ?_
      refine lv_goto (tgt := 31) hx hb dX4_shareOf_18 (by decide) ?_
      exact hret _ _ _ _ _ _ (by refine ⟨?_, rfl⟩; first | exact ((if_neg (Int32.not_le.mpr c_1)).trans (if_pos c_14)).symm | exact ((if_neg (Int32.not_le.mpr c_1)).trans (if_neg c_14)).symm) hP hS dX4_shareOf_31
  · skip
    refine lv_iconst (v := nI 0) hx hb dX4_shareOf_4 (by decide) ?_
    exact hret _ _ _ _ _ _ (⟨(if_pos (Int32.not_lt.mp c_1)).symm, rfl⟩) hP hS dX4_shareOf_5

set_option maxHeartbeats 4000000 in
set_option maxRecDepth 100000 in
theorem c_X4_dueOf (l : Launch) {D : va_G} {τ : Nat → ClassId} {ad : Nat → Nat} (hI : kInj ad) {G : Nat → Nat → Int32} {j n r : Nat} {P : Nat → Nat} (hj : j < 7) (hn : G (sB j) 6 = nI n) (hn4 : n ≤ 40) (hr : r < 40) (hp : ∀ c, c < 12 → G (cB j c) 2 = nI (P c) ∧ P c ≤ 10) : kM l yX4_dueOf cX4_dueOf 4 (some .int) { frames := 3, cells := 0, slots := 0, locals := 70 } D τ ad [.ref (ad (sB j)), .ref (ad (rN j r))] G (fun v G' => v = dueF G j n P r ∧ G' = G) := by
  refine kMet (own := RX4) (by decide) rfl (Nat.le_of_ble_eq_true rfl) ?_
  intro p9 e9 s9 m9 args9 below9 meth9 c9 Q9 X hx hb hP hS hret ls hl
  have hPs := hP
  have hl : lv_has ls 4 [(0, .ref (ad (sB j))), (1, .ref (ad (rN j r)))] := hl
  refine lv_aload_n hx hb dX4_dueOf_0 rfl (lv_at hl 1 rfl) ?_
  refine kcV X hP hS (c_X3_paysRent l hI (by first | assumption | omega) (by first | assumption | omega)) (oR (by first | assumption | omega) (by first | assumption | omega)) v_X4_95 ⟨Nat.le_of_ble_eq_true rfl, Nat.le_of_ble_eq_true rfl, rfl, rfl⟩ rfl rfl (Nat.le_of_ble_eq_true rfl) hl.1 ⟨Nat.zero_le _, Nat.zero_le _⟩ dX4_dueOf_1 (fun r_1 G_1 H locs hR hP hS => ?_)
  obtain ⟨rfl, hG_1⟩ := hR
  rw [hG_1] at hP
  clear hG_1
  first
    | refine kif_ne (tgt := 9) hx hb dX4_dueOf_4 (by decide) (fun c_4 => ?_) (fun c_4 => ?_)
    | refine lv_if_ne (tgt := 9) hx hb dX4_dueOf_4 (by decide) (fun c_4 => ?_) (fun c_4 => ?_)
  · skip
    refine lv_iconst (v := nI 0) hx hb dX4_dueOf_9 (by decide) ?_
    refine kist hx hb dX4_dueOf_10 rfl hl (by decide) (kp_2_2 rfl) (fun ls hl => ?_)
    refine lv_iconst (v := nI 0) hx hb dX4_dueOf_11 (by decide) ?_
    refine kist hx hb dX4_dueOf_12 rfl hl (by decide) (kp_3_3 rfl) (fun ls hl => ?_)
    have lp_13 : ∀ (d : Nat) (i : Nat) (x : Int32) (H : Heap) (locs : List Loc) (ls : Array Slot), (12 - i) < d → (i ≤ 12) → (x = sm (fun c => shF G j n c (P c) (pf (G (cM j c)) (G (rN j r) 2) 0 (P c))) i) → va_P D vwCl (kW τ ad G) H → va_S (kAd ad) s9.heap H locs → lv_has ls 4 [(0, .ref (ad (sB j))), (1, .ref (ad (rN j r))), (2, .int x), (3, .int (nI i))] → W p9 l e9 { frames := 3, cells := 0, slots := 0, locals := 70 } s9 m9 args9 below9 meth9 c9 H locs 0 0 Q9 (F0 m9 13 ls []) := by
      intro d
      induction d with
      | zero => exact fun _ _ _ _ _ hd => absurd hd (Nat.not_lt_zero _)
      | succ d ih_13 =>
        intro i x H locs ls hd iv_0 iv_1 hP hS hl
        refine lv_iload_n hx hb dX4_dueOf_13 rfl (lv_at hl 3 rfl) ?_
        refine lv_bipush (v := nI 12) hx hb dX4_dueOf_14 (by decide) ?_
        first
          | refine kic_ge (tgt := 51) hx hb dX4_dueOf_16 (by decide) (by with_reducible rfl) (by with_reducible rfl) (by omega) (by omega) (fun c_16 => ?_) (fun c_16 => ?_)
          | refine lv_icmp_ge (tgt := 51) hx hb dX4_dueOf_16 (by decide) (fun c_16 => ?_) (fun c_16 => ?_)
        · skip
          refine lv_iload_n hx hb dX4_dueOf_51 rfl (lv_at hl 2 rfl) ?_
          exact hret _ _ _ _ _ _ (by refine ⟨?_, rfl⟩; rw [dueF, if_pos c_4, iv_1, show i = 12 by omega]) hP hS dX4_dueOf_52
        · skip
          refine lv_iload_n hx hb dX4_dueOf_19 rfl (lv_at hl 2 rfl) ?_
          refine lv_aload_n hx hb dX4_dueOf_20 rfl (lv_at hl 0 rfl) ?_
          refine lv_aload_n hx hb dX4_dueOf_21 rfl (lv_at hl 0 rfl) ?_
          refine kget X hP (oS (by first | assumption | omega)) g_X4_11 rfl dX4_dueOf_22 ?_
          refine lv_iload_n hx hb dX4_dueOf_25 rfl (lv_at hl 3 rfl) ?_
          refine kaald X hP (qC (by first | assumption | omega)) (by first | assumption | omega) rfl dX4_dueOf_26 ?_
          refine lv_aload_n hx hb dX4_dueOf_27 rfl (lv_at hl 0 rfl) ?_
          refine kget X hP (oS (by first | assumption | omega)) g_X4_11 rfl dX4_dueOf_28 ?_
          refine lv_iload_n hx hb dX4_dueOf_31 rfl (lv_at hl 3 rfl) ?_
          refine kaald X hP (qC (by first | assumption | omega)) (by first | assumption | omega) rfl dX4_dueOf_32 ?_
          refine lv_aload_n hx hb dX4_dueOf_33 rfl (lv_at hl 1 rfl) ?_
          refine kget X hP (oR (by first | assumption | omega) (by first | assumption | omega)) g_X4_90 rfl dX4_dueOf_34 ?_
          refine kcV X hP hS (c_X0_placeSeenAt l hI (x := G (rN j r) 2) hj (by omega) (hp _ (by omega)).1 (hp _ (by omega)).2) (oC hj (by omega)) v_X4_91 ⟨Nat.le_of_ble_eq_true rfl, Nat.le_of_ble_eq_true rfl, rfl, rfl⟩ rfl rfl (Nat.le_of_ble_eq_true rfl) hl.1 ⟨Nat.zero_le _, Nat.zero_le _⟩ dX4_dueOf_37 (fun r_37 G_37 H locs hR hP hS => ?_)
          obtain ⟨rfl, hG_37⟩ := hR
          rw [hG_37] at hP
          clear hG_37
          refine kcV X hP hS (c_X4_shareOf l hI hj hn hn4 (by omega) (hp _ (by omega)).1 (hp _ (by omega)).2) (oS (by first | assumption | omega)) v_X4_114 ⟨Nat.le_of_ble_eq_true rfl, Nat.le_of_ble_eq_true rfl, rfl, rfl⟩ rfl rfl (Nat.le_of_ble_eq_true rfl) hl.1 ⟨Nat.zero_le _, Nat.zero_le _⟩ dX4_dueOf_40 (fun r_40 G_40 H locs hR hP hS => ?_)
          obtain ⟨rfl, hG_40⟩ := hR
          rw [hG_40] at hP
          clear hG_40
          first
            | refine kadd hx hb dX4_dueOf_43 (by with_reducible rfl) (by with_reducible rfl) ?_
            | refine lv_iadd hx hb dX4_dueOf_43 ?_
          refine kist hx hb dX4_dueOf_44 rfl hl (by decide) (kp_4_2 rfl) (fun ls hl => ?_)
          first
            | refine kinc (q := 3) hx hb dX4_dueOf_45 hl rfl (by decide) (kp_4_3 rfl) (fun ls hl => ?_)
            | refine kincG (q := 3) hx hb dX4_dueOf_45 hl rfl (by decide) (kp_4_3 rfl) (fun ls hl => ?_)
          refine lv_goto (tgt := 13) hx hb dX4_dueOf_48 (by decide) ?_
          exact ih_13 _ _ _ _ _ (by omega) (by omega) (by rw [iv_1]; rfl) hP hS (lv_sub hl [0,1,2,3] rfl)
    exact lp_13 _ 0 0 _ _ _ (Nat.lt_succ_self _) (Nat.zero_le _) (rfl) hP hS (lv_sub hl [0,1,2,3] rfl)
  · skip
    refine lv_iconst (v := nI 0) hx hb dX4_dueOf_7 (by decide) ?_
    exact hret _ _ _ _ _ _ (⟨(if_neg c_4).symm, rfl⟩) hP hS dX4_dueOf_8

set_option maxHeartbeats 4000000 in
set_option maxRecDepth 100000 in
theorem c_X4_hasConflict (l : Launch) {D : va_G} {τ : Nat → ClassId} {ad : Nat → Nat} (hI : kInj ad) {G : Nat → Nat → Int32} {j r : Nat} (hj : j < 7) (hr : r < 40) : kM l yX4_hasConflict cX4_hasConflict 3 (some .boolean) { frames := 1, cells := 0, slots := 0, locals := 21 } D τ ad [.ref (ad (sB j)), .ref (ad (rN j r))] G (fun v G' => v = (if cn (cfF G j r) 12 ≠ 0 then 1 else 0) ∧ G' = G) := by
  refine kMetZ (own := RX4) (by decide) rfl (Nat.le_of_ble_eq_true rfl) ?_
  intro p9 e9 s9 m9 args9 below9 meth9 c9 Q9 X hx hb hP hS hret ls hl
  have hPs := hP
  have hl : lv_has ls 3 [(0, .ref (ad (sB j))), (1, .ref (ad (rN j r)))] := hl
  refine lv_iconst (v := nI 0) hx hb dX4_hasConflict_0 (by decide) ?_
  refine kist hx hb dX4_hasConflict_1 rfl hl (by decide) (kp_2_2 rfl) (fun ls hl => ?_)
  have lp_2 : ∀ (d : Nat) (i : Nat) (H : Heap) (locs : List Loc) (ls : Array Slot), (12 - i) < d → (i ≤ 12) → (0 = cn (cfF G j r) i) → va_P D vwCl (kW τ ad G) H → va_S (kAd ad) s9.heap H locs → lv_has ls 3 [(0, .ref (ad (sB j))), (1, .ref (ad (rN j r))), (2, .int (nI i))] → W p9 l e9 { frames := 1, cells := 0, slots := 0, locals := 21 } s9 m9 args9 below9 meth9 c9 H locs 0 0 Q9 (F0 m9 2 ls []) := by
    intro d
    induction d with
    | zero => exact fun _ _ _ _ hd => absurd hd (Nat.not_lt_zero _)
    | succ d ih_2 =>
      intro i H locs ls hd iv_0 iv_1 hP hS hl
      refine lv_iload_n hx hb dX4_hasConflict_2 rfl (lv_at hl 2 rfl) ?_
      refine lv_bipush (v := nI 12) hx hb dX4_hasConflict_3 (by decide) ?_
      first
        | refine kic_ge (tgt := 42) hx hb dX4_hasConflict_5 (by decide) (by with_reducible rfl) (by with_reducible rfl) (by omega) (by omega) (fun c_5 => ?_) (fun c_5 => ?_)
        | refine lv_icmp_ge (tgt := 42) hx hb dX4_hasConflict_5 (by decide) (fun c_5 => ?_) (fun c_5 => ?_)
      · skip
        refine lv_iconst (v := nI 0) hx hb dX4_hasConflict_42 (by decide) ?_
        exact hret _ _ _ _ _ _ (by decide) (by refine ⟨(if_neg (fun z => z ?_)).symm, rfl⟩; rw [show (12 : Nat) = i by omega]; exact iv_1.symm) hP hS dX4_hasConflict_43
      · skip
        refine lv_aload_n hx hb dX4_hasConflict_8 rfl (lv_at hl 1 rfl) ?_
        refine lv_iload_n hx hb dX4_hasConflict_9 rfl (lv_at hl 2 rfl) ?_
        refine kcV X hP hS (c_X3_hasWrite l hI (by first | assumption | omega) (by first | assumption | omega)) (oR (by first | assumption | omega) (by first | assumption | omega)) v_X4_86 ⟨Nat.le_of_ble_eq_true rfl, Nat.le_of_ble_eq_true rfl, rfl, rfl⟩ rfl rfl (Nat.le_of_ble_eq_true rfl) hl.1 ⟨Nat.zero_le _, Nat.zero_le _⟩ dX4_hasConflict_10 (fun r_10 G_10 H locs hR hP hS => ?_)
        obtain ⟨rfl, hG_10⟩ := hR
        rw [hG_10] at hP
        clear hG_10
        first
          | refine kif_eq (tgt := 36) hx hb dX4_hasConflict_13 (by decide) (fun c_13 => ?_) (fun c_13 => ?_)
          | refine lv_if_eq (tgt := 36) hx hb dX4_hasConflict_13 (by decide) (fun c_13 => ?_) (fun c_13 => ?_)
        · skip
          first
            | refine kinc (q := 2) hx hb dX4_hasConflict_36 hl rfl (by decide) (kp_3_2 rfl) (fun ls hl => ?_)
            | refine kincG (q := 2) hx hb dX4_hasConflict_36 hl rfl (by decide) (kp_3_2 rfl) (fun ls hl => ?_)
          refine lv_goto (tgt := 2) hx hb dX4_hasConflict_39 (by decide) ?_
          exact ih_2 _ _ _ _ (by omega) (by omega) (cn_z iv_1 (if_neg (fun z => c_13 z.1))) hP hS (lv_sub hl [0,1,2] rfl)
        · skip
          refine lv_aload_n hx hb dX4_hasConflict_16 rfl (lv_at hl 0 rfl) ?_
          refine kget X hP (oS (by first | assumption | omega)) g_X4_11 rfl dX4_hasConflict_17 ?_
          refine lv_iload_n hx hb dX4_hasConflict_20 rfl (lv_at hl 2 rfl) ?_
          refine kaald X hP (qC (by first | assumption | omega)) (by first | assumption | omega) rfl dX4_hasConflict_21 ?_
          refine kget X hP (oC hj (by omega)) g_X4_143 rfl dX4_hasConflict_22 ?_
          refine lv_iconst (v := nI 0) hx hb dX4_hasConflict_25 (by decide) ?_
          refine kiald X hP (aM hj (by omega)) (by omega) dX4_hasConflict_26 ?_
          refine lv_aload_n hx hb dX4_hasConflict_27 rfl (lv_at hl 1 rfl) ?_
          refine kget X hP (oR (by first | assumption | omega) (by first | assumption | omega)) g_X4_90 rfl dX4_hasConflict_28 ?_
          first
            | refine kic_le (tgt := 36) hx hb dX4_hasConflict_31 (by decide) (by with_reducible rfl) (by with_reducible rfl) (by omega) (by omega) (fun c_31 => ?_) (fun c_31 => ?_)
            | refine lv_icmp_le (tgt := 36) hx hb dX4_hasConflict_31 (by decide) (fun c_31 => ?_) (fun c_31 => ?_)
          · skip
            first
              | refine kinc (q := 2) hx hb dX4_hasConflict_36 hl rfl (by decide) (kp_3_2 rfl) (fun ls hl => ?_)
              | refine kincG (q := 2) hx hb dX4_hasConflict_36 hl rfl (by decide) (kp_3_2 rfl) (fun ls hl => ?_)
            refine lv_goto (tgt := 2) hx hb dX4_hasConflict_39 (by decide) ?_
            exact ih_2 _ _ _ _ (by omega) (by omega) (cn_z iv_1 (if_neg (fun z => Int32.not_le.mpr z.2 c_31))) hP hS (lv_sub hl [0,1,2] rfl)
          · skip
            refine lv_iconst (v := nI 1) hx hb dX4_hasConflict_34 (by decide) ?_
            exact hret _ _ _ _ _ _ (by decide) (by refine ⟨(if_pos (cn_pos (i := i) (by omega) ?_)).symm, rfl⟩; rw [cfF, if_pos ⟨c_13, Int32.not_le.mp c_31⟩]; decide) hP hS dX4_hasConflict_35
  exact lp_2 _ 0 _ _ _ (Nat.lt_succ_self _) (Nat.zero_le _) (rfl) hP hS (lv_sub hl [0,1,2] rfl)

set_option maxHeartbeats 4000000 in
set_option maxRecDepth 100000 in
theorem c_X1_isInSkewWithLater (l : Launch) {D : va_G} {τ : Nat → ClassId} {ad : Nat → Nat} (hI : kInj ad) {G : Nat → Nat → Int32} {j r q : Nat} (hj : j < 7) (hr : r < 40) (hq : q < 40) : kM l yX1_isInSkewWithLater cX1_isInSkewWithLater 2 (some .boolean) { frames := 0, cells := 0, slots := 0, locals := 0 } D τ ad [.ref (ad (mC j q)), .ref (ad (rN j r))] G (fun v G' => v = (if skF (G (mC j q)) (G (rN j r)) then 1 else 0) ∧ G' = G) := by
  refine kMetZ (own := RX1) (by decide) rfl (Nat.le_of_ble_eq_true rfl) ?_
  intro p9 e9 s9 m9 args9 below9 meth9 c9 Q9 X hx hb hP hS hret ls hl
  have hPs := hP
  have hl : lv_has ls 2 [(0, .ref (ad (mC j q))), (1, .ref (ad (rN j r)))] := hl
  refine lv_aload_n hx hb dX1_isInSkewWithLater_0 rfl (lv_at hl 1 rfl) ?_
  refine kget X hP (oR (by first | assumption | omega) (by first | assumption | omega)) g_X1_28 rfl dX1_isInSkewWithLater_1 ?_
  refine lv_aload_n hx hb dX1_isInSkewWithLater_4 rfl (lv_at hl 0 rfl) ?_
  refine kget X hP (oM (by first | assumption | omega) (by first | assumption | omega)) g_X1_16 rfl dX1_isInSkewWithLater_5 ?_
  first
    | refine kic_ge (tgt := 51) hx hb dX1_isInSkewWithLater_8 (by decide) (by with_reducible rfl) (by with_reducible rfl) (by omega) (by omega) (fun c_8 => ?_) (fun c_8 => ?_)
    | refine lv_icmp_ge (tgt := 51) hx hb dX1_isInSkewWithLater_8 (by decide) (fun c_8 => ?_) (fun c_8 => ?_)
  · skip
    refine lv_iconst (v := nI 0) hx hb dX1_isInSkewWithLater_51 (by decide) ?_
    exact hret _ _ _ _ _ _ (by decide) (⟨(if_neg (fun z => Int32.not_le.mpr z.1 c_8)).symm, rfl⟩) hP hS dX1_isInSkewWithLater_52
  · skip
    refine lv_aload_n hx hb dX1_isInSkewWithLater_11 rfl (lv_at hl 1 rfl) ?_
    refine kget X hP (oR (by first | assumption | omega) (by first | assumption | omega)) g_X1_33 rfl dX1_isInSkewWithLater_12 ?_
    refine lv_aload_n hx hb dX1_isInSkewWithLater_15 rfl (lv_at hl 0 rfl) ?_
    refine kget X hP (oM (by first | assumption | omega) (by first | assumption | omega)) g_X1_19 rfl dX1_isInSkewWithLater_16 ?_
    refine lv_iand hx hb dX1_isInSkewWithLater_19 ?_
    first
      | refine kif_eq (tgt := 51) hx hb dX1_isInSkewWithLater_20 (by decide) (fun c_20 => ?_) (fun c_20 => ?_)
      | refine lv_if_eq (tgt := 51) hx hb dX1_isInSkewWithLater_20 (by decide) (fun c_20 => ?_) (fun c_20 => ?_)
    · skip
      refine lv_iconst (v := nI 0) hx hb dX1_isInSkewWithLater_51 (by decide) ?_
      exact hret _ _ _ _ _ _ (by decide) (⟨(if_neg (fun z => z.2.1 c_20)).symm, rfl⟩) hP hS dX1_isInSkewWithLater_52
    · skip
      refine lv_aload_n hx hb dX1_isInSkewWithLater_23 rfl (lv_at hl 0 rfl) ?_
      refine kget X hP (oM (by first | assumption | omega) (by first | assumption | omega)) g_X1_22 rfl dX1_isInSkewWithLater_24 ?_
      refine lv_aload_n hx hb dX1_isInSkewWithLater_27 rfl (lv_at hl 1 rfl) ?_
      refine kget X hP (oR (by first | assumption | omega) (by first | assumption | omega)) g_X1_34 rfl dX1_isInSkewWithLater_28 ?_
      refine lv_iand hx hb dX1_isInSkewWithLater_31 ?_
      first
        | refine kif_eq (tgt := 51) hx hb dX1_isInSkewWithLater_32 (by decide) (fun c_32 => ?_) (fun c_32 => ?_)
        | refine lv_if_eq (tgt := 51) hx hb dX1_isInSkewWithLater_32 (by decide) (fun c_32 => ?_) (fun c_32 => ?_)
      · skip
        refine lv_iconst (v := nI 0) hx hb dX1_isInSkewWithLater_51 (by decide) ?_
        exact hret _ _ _ _ _ _ (by decide) (⟨(if_neg (fun z => z.2.2.1 c_32)).symm, rfl⟩) hP hS dX1_isInSkewWithLater_52
      · skip
        refine lv_aload_n hx hb dX1_isInSkewWithLater_35 rfl (lv_at hl 0 rfl) ?_
        refine kget X hP (oM (by first | assumption | omega) (by first | assumption | omega)) g_X1_19 rfl dX1_isInSkewWithLater_36 ?_
        refine lv_aload_n hx hb dX1_isInSkewWithLater_39 rfl (lv_at hl 1 rfl) ?_
        refine kget X hP (oR (by first | assumption | omega) (by first | assumption | omega)) g_X1_34 rfl dX1_isInSkewWithLater_40 ?_
        refine lv_iand hx hb dX1_isInSkewWithLater_43 ?_
        first
          | refine kif_ne (tgt := 51) hx hb dX1_isInSkewWithLater_44 (by decide) (fun c_44 => ?_) (fun c_44 => ?_)
          | refine lv_if_ne (tgt := 51) hx hb dX1_isInSkewWithLater_44 (by decide) (fun c_44 => ?_) (fun c_44 => ?_)
        · skip
          refine lv_iconst (v := nI 0) hx hb dX1_isInSkewWithLater_51 (by decide) ?_
          exact hret _ _ _ _ _ _ (by decide) (⟨(if_neg (fun z => c_44 z.2.2.2)).symm, rfl⟩) hP hS dX1_isInSkewWithLater_52
        · skip
          refine lv_iconst (v := nI 1) hx hb dX1_isInSkewWithLater_47 (by decide) ?_
          refine lv_goto (tgt := 52) hx hb dX1_isInSkewWithLater_48 (by decide) ?_
          exact hret _ _ _ _ _ _ (by decide) (⟨(if_pos ⟨Int32.not_le.mp c_8, c_20, c_32, c_44⟩).symm, rfl⟩) hP hS dX1_isInSkewWithLater_52

set_option maxHeartbeats 4000000 in
set_option maxRecDepth 100000 in
theorem c_X4_skewsOf (l : Launch) {D : va_G} {τ : Nat → ClassId} {ad : Nat → Nat} (hI : kInj ad) {G : Nat → Nat → Int32} {j k r : Nat} (hj : j < 7) (hk : G (sB j) 7 = nI k) (hk4 : k ≤ 40) (hr : r < 40) : kM l yX4_skewsOf cX4_skewsOf 4 (some .int) { frames := 1, cells := 0, slots := 0, locals := 21 } D τ ad [.ref (ad (sB j)), .ref (ad (rN j r))] G (fun v G' => v = nI (cn (fun q => if skF (G (mC j q)) (G (rN j r)) then 1 else 0) k) ∧ G' = G) := by
  refine kMet (own := RX4) (by decide) rfl (Nat.le_of_ble_eq_true rfl) ?_
  intro p9 e9 s9 m9 args9 below9 meth9 c9 Q9 X hx hb hP hS hret ls hl
  have hPs := hP
  have hl : lv_has ls 4 [(0, .ref (ad (sB j))), (1, .ref (ad (rN j r)))] := hl
  refine lv_iconst (v := nI 0) hx hb dX4_skewsOf_0 (by decide) ?_
  refine kist hx hb dX4_skewsOf_1 rfl hl (by decide) (kp_2_2 rfl) (fun ls hl => ?_)
  refine lv_iconst (v := nI 0) hx hb dX4_skewsOf_2 (by decide) ?_
  refine kist hx hb dX4_skewsOf_3 rfl hl (by decide) (kp_3_3 rfl) (fun ls hl => ?_)
  have lp_4 : ∀ (d : Nat) (i x : Nat) (H : Heap) (locs : List Loc) (ls : Array Slot), (k - i) < d → (i ≤ k) → (x = cn (fun q => if skF (G (mC j q)) (G (rN j r)) then 1 else 0) i) → va_P D vwCl (kW τ ad G) H → va_S (kAd ad) s9.heap H locs → lv_has ls 4 [(0, .ref (ad (sB j))), (1, .ref (ad (rN j r))), (2, .int (nI x)), (3, .int (nI i))] → W p9 l e9 { frames := 1, cells := 0, slots := 0, locals := 21 } s9 m9 args9 below9 meth9 c9 H locs 0 0 Q9 (F0 m9 4 ls []) := by
    intro d
    induction d with
    | zero => exact fun _ _ _ _ _ hd => absurd hd (Nat.not_lt_zero _)
    | succ d ih_4 =>
      intro i x H locs ls hd iv_0 iv_1 hP hS hl
      refine lv_iload_n hx hb dX4_skewsOf_4 rfl (lv_at hl 3 rfl) ?_
      refine lv_aload_n hx hb dX4_skewsOf_5 rfl (lv_at hl 0 rfl) ?_
      refine kget X hP (oS (by first | assumption | omega)) g_X4_50 (congrArg (fun z => some (Value.int z)) hk) dX4_skewsOf_6 ?_
      first
        | refine kic_ge (tgt := 34) hx hb dX4_skewsOf_9 (by decide) (by with_reducible rfl) (by with_reducible rfl) (by omega) (by omega) (fun c_9 => ?_) (fun c_9 => ?_)
        | refine lv_icmp_ge (tgt := 34) hx hb dX4_skewsOf_9 (by decide) (fun c_9 => ?_) (fun c_9 => ?_)
      · skip
        refine lv_iload_n hx hb dX4_skewsOf_34 rfl (lv_at hl 2 rfl) ?_
        exact hret _ _ _ _ _ _ (⟨congrArg nI (iv_1.trans (by rw [show i = k by omega])), rfl⟩) hP hS dX4_skewsOf_35
      · skip
        refine lv_aload_n hx hb dX4_skewsOf_12 rfl (lv_at hl 0 rfl) ?_
        refine kget X hP (oS (by first | assumption | omega)) g_X4_25 rfl dX4_skewsOf_13 ?_
        refine lv_iload_n hx hb dX4_skewsOf_16 rfl (lv_at hl 3 rfl) ?_
        refine kaald X hP (qM (by first | assumption | omega)) (by first | assumption | omega) rfl dX4_skewsOf_17 ?_
        refine lv_aload_n hx hb dX4_skewsOf_18 rfl (lv_at hl 1 rfl) ?_
        refine kcV X hP hS (c_X1_isInSkewWithLater l hI (by first | assumption | omega) (by first | assumption | omega) (by first | assumption | omega)) (oM (by first | assumption | omega) (by first | assumption | omega)) v_X4_146 ⟨Nat.le_of_ble_eq_true rfl, Nat.le_of_ble_eq_true rfl, rfl, rfl⟩ rfl rfl (Nat.le_of_ble_eq_true rfl) hl.1 ⟨Nat.zero_le _, Nat.zero_le _⟩ dX4_skewsOf_19 (fun r_19 G_19 H locs hR hP hS => ?_)
        obtain ⟨rfl, hG_19⟩ := hR
        rw [hG_19] at hP
        clear hG_19
        first
          | refine kif_eq (tgt := 28) hx hb dX4_skewsOf_22 (by decide) (fun c_22 => ?_) (fun c_22 => ?_)
          | refine lv_if_eq (tgt := 28) hx hb dX4_skewsOf_22 (by decide) (fun c_22 => ?_) (fun c_22 => ?_)
        · skip
          first
            | refine kinc (q := 3) hx hb dX4_skewsOf_28 hl rfl (by decide) (kp_4_3 rfl) (fun ls hl => ?_)
            | refine kincG (q := 3) hx hb dX4_skewsOf_28 hl rfl (by decide) (kp_4_3 rfl) (fun ls hl => ?_)
          refine lv_goto (tgt := 4) hx hb dX4_skewsOf_31 (by decide) ?_
          exact ih_4 _ _ _ _ _ (by omega) (by omega) (by first | exact cn_p iv_1 (if_pos c_22) | exact cn_z iv_1 (if_neg c_22)) hP hS (lv_sub hl [0,1,2,3] rfl)
        · skip
          first
            | refine kinc (q := 2) hx hb dX4_skewsOf_25 hl rfl (by decide) (kp_4_2 rfl) (fun ls hl => ?_)
            | refine kincG (q := 2) hx hb dX4_skewsOf_25 hl rfl (by decide) (kp_4_2 rfl) (fun ls hl => ?_)
          first
            | refine kinc (q := 3) hx hb dX4_skewsOf_28 hl rfl (by decide) (kp_4_3 rfl) (fun ls hl => ?_)
            | refine kincG (q := 3) hx hb dX4_skewsOf_28 hl rfl (by decide) (kp_4_3 rfl) (fun ls hl => ?_)
          refine lv_goto (tgt := 4) hx hb dX4_skewsOf_31 (by decide) ?_
          exact ih_4 _ _ _ _ _ (by omega) (by omega) (by first | exact cn_p iv_1 (if_pos c_22) | exact cn_z iv_1 (if_neg c_22)) hP hS (lv_sub hl [0,1,2,3] rfl)
  exact lp_4 _ 0 0 _ _ _ (Nat.lt_succ_self _) (Nat.zero_le _) (rfl) hP hS (lv_sub hl [0,1,2,3] rfl)

set_option maxHeartbeats 4000000 in
set_option maxRecDepth 100000 in
theorem c_X4_pairsInSkew (l : Launch) {D : va_G} {τ : Nat → ClassId} {ad : Nat → Nat} (hI : kInj ad) {G : Nat → Nat → Int32} {j k : Nat} (hj : j < 7) (hk : G (sB j) 7 = nI k) (hk4 : k ≤ 40) : kM l yX4_pairsInSkew cX4_pairsInSkew 3 (some .int) { frames := 0, cells := 0, slots := 0, locals := 0 } D τ ad [.ref (ad (sB j))] G (fun v G' => v = sm (fun q => G (mC j q) 5) k ∧ G' = G) := by
  refine kMet (own := RX4) (by decide) rfl (Nat.le_of_ble_eq_true rfl) ?_
  intro p9 e9 s9 m9 args9 below9 meth9 c9 Q9 X hx hb hP hS hret ls hl
  have hPs := hP
  have hl : lv_has ls 3 [(0, .ref (ad (sB j)))] := hl
  refine lv_iconst (v := nI 0) hx hb dX4_pairsInSkew_0 (by decide) ?_
  refine kist hx hb dX4_pairsInSkew_1 rfl hl (by decide) (kp_1_1 rfl) (fun ls hl => ?_)
  refine lv_iconst (v := nI 0) hx hb dX4_pairsInSkew_2 (by decide) ?_
  refine kist hx hb dX4_pairsInSkew_3 rfl hl (by decide) (kp_2_2 rfl) (fun ls hl => ?_)
  have lp_4 : ∀ (d : Nat) (i : Nat) (x : Int32) (H : Heap) (locs : List Loc) (ls : Array Slot), (k - i) < d → (i ≤ k) → (x = sm (fun q => G (mC j q) 5) i) → va_P D vwCl (kW τ ad G) H → va_S (kAd ad) s9.heap H locs → lv_has ls 3 [(0, .ref (ad (sB j))), (1, .int x), (2, .int (nI i))] → W p9 l e9 { frames := 0, cells := 0, slots := 0, locals := 0 } s9 m9 args9 below9 meth9 c9 H locs 0 0 Q9 (F0 m9 4 ls []) := by
    intro d
    induction d with
    | zero => exact fun _ _ _ _ _ hd => absurd hd (Nat.not_lt_zero _)
    | succ d ih_4 =>
      intro i x H locs ls hd iv_0 iv_1 hP hS hl
      refine lv_iload_n hx hb dX4_pairsInSkew_4 rfl (lv_at hl 2 rfl) ?_
      refine lv_aload_n hx hb dX4_pairsInSkew_5 rfl (lv_at hl 0 rfl) ?_
      refine kget X hP (oS (by first | assumption | omega)) g_X4_50 (congrArg (fun z => some (Value.int z)) hk) dX4_pairsInSkew_6 ?_
      first
        | refine kic_ge (tgt := 30) hx hb dX4_pairsInSkew_9 (by decide) (by with_reducible rfl) (by with_reducible rfl) (by omega) (by omega) (fun c_9 => ?_) (fun c_9 => ?_)
        | refine lv_icmp_ge (tgt := 30) hx hb dX4_pairsInSkew_9 (by decide) (fun c_9 => ?_) (fun c_9 => ?_)
      · skip
        refine lv_iload_n hx hb dX4_pairsInSkew_30 rfl (lv_at hl 1 rfl) ?_
        exact hret _ _ _ _ _ _ (⟨iv_1.trans (by rw [show i = k by omega]), rfl⟩) hP hS dX4_pairsInSkew_31
      · skip
        refine lv_iload_n hx hb dX4_pairsInSkew_12 rfl (lv_at hl 1 rfl) ?_
        refine lv_aload_n hx hb dX4_pairsInSkew_13 rfl (lv_at hl 0 rfl) ?_
        refine kget X hP (oS (by first | assumption | omega)) g_X4_25 rfl dX4_pairsInSkew_14 ?_
        refine lv_iload_n hx hb dX4_pairsInSkew_17 rfl (lv_at hl 2 rfl) ?_
        refine kaald X hP (qM (by first | assumption | omega)) (by first | assumption | omega) rfl dX4_pairsInSkew_18 ?_
        refine kget X hP (oM (by first | assumption | omega) (by first | assumption | omega)) g_X4_150 rfl dX4_pairsInSkew_19 ?_
        first
          | refine kadd hx hb dX4_pairsInSkew_22 (by with_reducible rfl) (by with_reducible rfl) ?_
          | refine lv_iadd hx hb dX4_pairsInSkew_22 ?_
        refine kist hx hb dX4_pairsInSkew_23 rfl hl (by decide) (kp_3_1 rfl) (fun ls hl => ?_)
        first
          | refine kinc (q := 2) hx hb dX4_pairsInSkew_24 hl rfl (by decide) (kp_3_2 rfl) (fun ls hl => ?_)
          | refine kincG (q := 2) hx hb dX4_pairsInSkew_24 hl rfl (by decide) (kp_3_2 rfl) (fun ls hl => ?_)
        refine lv_goto (tgt := 4) hx hb dX4_pairsInSkew_27 (by decide) ?_
        exact ih_4 _ _ _ _ _ (by omega) (by omega) (by rw [iv_1]; rfl) hP hS (lv_sub hl [0,1,2] rfl)
  exact lp_4 _ 0 0 _ _ _ (Nat.lt_succ_self _) (Nat.zero_le _) (rfl) hP hS (lv_sub hl [0,1,2] rfl)

set_option maxHeartbeats 4000000 in
set_option maxRecDepth 100000 in
theorem c_X4_oldVersionsWithout (l : Launch) {D : va_G} {τ : Nat → ClassId} {ad : Nat → Nat} (hI : kInj ad) {G : Nat → Nat → Int32} {j n r : Nat} {P : Nat → Nat} (hj : j < 7) (hn : G (sB j) 6 = nI n) (hn4 : n ≤ 40) (hr : r < n) (hp : ∀ c, c < 12 → G (cB j c) 2 = nI (P c) ∧ P c ≤ 10) : kM l yX4_oldVersionsWithout cX4_oldVersionsWithout 6 (some .int) { frames := 2, cells := 0, slots := 0, locals := 47 } D τ ad [.ref (ad (sB j)), .int (nI r)] G (fun v G' => v = sm (ovF G j n r P) 12 ∧ G' = G) := by
  refine kMet (own := RX4) (by decide) rfl (Nat.le_of_ble_eq_true rfl) ?_
  intro p9 e9 s9 m9 args9 below9 meth9 c9 Q9 X hx hb hP hS hret ls hl
  have hPs := hP
  have hl : lv_has ls 6 [(0, .ref (ad (sB j))), (1, .int (nI r))] := hl
  refine lv_iconst (v := nI 0) hx hb dX4_oldVersionsWithout_0 (by decide) ?_
  refine kist hx hb dX4_oldVersionsWithout_1 rfl hl (by decide) (kp_2_2 rfl) (fun ls hl => ?_)
  refine lv_iconst (v := nI 0) hx hb dX4_oldVersionsWithout_2 (by decide) ?_
  refine kist hx hb dX4_oldVersionsWithout_3 rfl hl (by decide) (kp_3_3 rfl) (fun ls hl => ?_)
  have lp_4 : ∀ (d : Nat) (i : Nat) (x : Int32) (H : Heap) (locs : List Loc) (ls : Array Slot), (12 - i) < d → (i ≤ 12) → (x = sm (ovF G j n r P) i) → va_P D vwCl (kW τ ad G) H → va_S (kAd ad) s9.heap H locs → lv_has ls 6 [(0, .ref (ad (sB j))), (1, .int (nI r)), (2, .int x), (3, .int (nI i))] → W p9 l e9 { frames := 2, cells := 0, slots := 0, locals := 47 } s9 m9 args9 below9 meth9 c9 H locs 0 0 Q9 (F0 m9 4 ls []) := by
    intro d
    induction d with
    | zero => exact fun _ _ _ _ _ hd => absurd hd (Nat.not_lt_zero _)
    | succ d ih_4 =>
      intro i x H locs ls hd iv_0 iv_1 hP hS hl
      refine lv_iload_n hx hb dX4_oldVersionsWithout_4 rfl (lv_at hl 3 rfl) ?_
      refine lv_bipush (v := nI 12) hx hb dX4_oldVersionsWithout_5 (by decide) ?_
      first
        | refine kic_ge (tgt := 62) hx hb dX4_oldVersionsWithout_7 (by decide) (by with_reducible rfl) (by with_reducible rfl) (by omega) (by omega) (fun c_7 => ?_) (fun c_7 => ?_)
        | refine lv_icmp_ge (tgt := 62) hx hb dX4_oldVersionsWithout_7 (by decide) (fun c_7 => ?_) (fun c_7 => ?_)
      · skip
        refine lv_iload_n hx hb dX4_oldVersionsWithout_62 rfl (lv_at hl 2 rfl) ?_
        exact hret _ _ _ _ _ _ (⟨iv_1.trans (by rw [show i = 12 by omega]), rfl⟩) hP hS dX4_oldVersionsWithout_63
      · skip
        refine lv_aload_n hx hb dX4_oldVersionsWithout_10 rfl (lv_at hl 0 rfl) ?_
        refine lv_aload_n hx hb dX4_oldVersionsWithout_11 rfl (lv_at hl 0 rfl) ?_
        refine kget X hP (oS (by first | assumption | omega)) g_X4_11 rfl dX4_oldVersionsWithout_12 ?_
        refine lv_iload_n hx hb dX4_oldVersionsWithout_15 rfl (lv_at hl 3 rfl) ?_
        refine kaald X hP (qC (by first | assumption | omega)) (by first | assumption | omega) rfl dX4_oldVersionsWithout_16 ?_
        refine lv_iload_n hx hb dX4_oldVersionsWithout_17 rfl (lv_at hl 1 rfl) ?_
        refine kcV X hP hS (c_X4_placesSeen l hI (q := nI r) hj hn hn4 (by omega) (hp _ (by omega)).1 (hp _ (by omega)).2) (oS (by first | assumption | omega)) v_X4_104 ⟨Nat.le_of_ble_eq_true rfl, Nat.le_of_ble_eq_true rfl, rfl, rfl⟩ rfl rfl (Nat.le_of_ble_eq_true rfl) hl.1 ⟨Nat.zero_le _, Nat.zero_le _⟩ dX4_oldVersionsWithout_18 (fun r_18 G_18 H locs hR hP hS => ?_)
        obtain ⟨rfl, hG_18⟩ := hR
        rw [hG_18] at hP
        clear hG_18
        refine kistW hx hb dX4_oldVersionsWithout_21 hl (by decide) (kp_4_4 rfl) (fun ls hl => ?_)
        refine lv_aload_n hx hb dX4_oldVersionsWithout_23 rfl (lv_at hl 0 rfl) ?_
        refine kget X hP (oS (by first | assumption | omega)) g_X4_19 rfl dX4_oldVersionsWithout_24 ?_
        refine lv_iload_n hx hb dX4_oldVersionsWithout_27 rfl (lv_at hl 1 rfl) ?_
        refine kaald X hP (qR (by first | assumption | omega)) (by omega) rfl dX4_oldVersionsWithout_28 ?_
        refine lv_iload_n hx hb dX4_oldVersionsWithout_29 rfl (lv_at hl 3 rfl) ?_
        refine kcV X hP hS (c_X3_hasWrite l hI (by first | assumption | omega) (by first | assumption | omega)) (oR (by first | assumption | omega) (by first | assumption | omega)) v_X4_86 ⟨Nat.le_of_ble_eq_true rfl, Nat.le_of_ble_eq_true rfl, rfl, rfl⟩ rfl rfl (Nat.le_of_ble_eq_true rfl) hl.1 ⟨Nat.zero_le _, Nat.zero_le _⟩ dX4_oldVersionsWithout_30 (fun r_30 G_30 H locs hR hP hS => ?_)
        obtain ⟨rfl, hG_30⟩ := hR
        rw [hG_30] at hP
        clear hG_30
        refine kistW hx hb dX4_oldVersionsWithout_33 hl (by decide) (kp_5_5 rfl) (fun ls hl => ?_)
        refine lv_iload_n hx hb dX4_oldVersionsWithout_35 rfl (lv_at hl 2 rfl) ?_
        refine lv_iload hx hb dX4_oldVersionsWithout_36 (lv_at hl 5 rfl) ?_
        first
          | refine kif_eq (tgt := 46) hx hb dX4_oldVersionsWithout_38 (by decide) (fun c_38 => ?_) (fun c_38 => ?_)
          | refine lv_if_eq (tgt := 46) hx hb dX4_oldVersionsWithout_38 (by decide) (fun c_38 => ?_) (fun c_38 => ?_)
        · skip
          refine lv_iload hx hb dX4_oldVersionsWithout_46 (lv_at hl 4 rfl) ?_
          refine lv_bipush (v := (-2)) hx hb dX4_oldVersionsWithout_48 (by decide) ?_
          refine lv_iand hx hb dX4_oldVersionsWithout_50 ?_
          refine kcS2 X hP hS (c_J6_bitCount_0f7a4 l hI) (n := 1) ⟨kWs_of 499 (by decide +kernel) rfl, mw_J6_bitCount_0f7a4.2.1, mw_J6_bitCount_0f7a4.2.2, mw_J6_bitCount_0f7a4.1, by decide, by decide, by decide +kernel⟩ ⟨Nat.le_of_ble_eq_true rfl, Nat.le_of_ble_eq_true rfl, rfl, rfl⟩ rfl rfl (Nat.le_of_ble_eq_true rfl) hl.1 ⟨Nat.zero_le _, Nat.zero_le _⟩ dX4_oldVersionsWithout_51 (fun r_51 G_51 H locs hR hP hS => ?_)
          obtain ⟨rfl, hG_51⟩ := hR
          rw [hG_51] at hP
          clear hG_51
          first
            | refine kadd hx hb dX4_oldVersionsWithout_54 (by with_reducible rfl) (by with_reducible rfl) ?_
            | refine lv_iadd hx hb dX4_oldVersionsWithout_54 ?_
          refine kist hx hb dX4_oldVersionsWithout_55 rfl hl (by decide) (kp_6_2 rfl) (fun ls hl => ?_)
          first
            | refine kinc (q := 3) hx hb dX4_oldVersionsWithout_56 hl rfl (by decide) (kp_6_3 rfl) (fun ls hl => ?_)
            | refine kincG (q := 3) hx hb dX4_oldVersionsWithout_56 hl rfl (by decide) (kp_6_3 rfl) (fun ls hl => ?_)
          refine lv_goto (tgt := 4) hx hb dX4_oldVersionsWithout_59 (by decide) ?_
          exact ih_4 _ _ _ _ _ (by omega) (by omega) (by first | exact sm_s iv_1 (congrArg bcF (if_pos c_38)) | exact sm_s iv_1 (congrArg bcF (if_neg c_38))) hP hS (lv_sub hl [0,1,2,3] rfl)
        · skip
          refine lv_iload hx hb dX4_oldVersionsWithout_41 (lv_at hl 4 rfl) ?_
          refine lv_goto (tgt := 51) hx hb dX4_oldVersionsWithout_43 (by decide) ?_
          refine kcS2 X hP hS (c_J6_bitCount_0f7a4 l hI) (n := 1) ⟨kWs_of 499 (by decide +kernel) rfl, mw_J6_bitCount_0f7a4.2.1, mw_J6_bitCount_0f7a4.2.2, mw_J6_bitCount_0f7a4.1, by decide, by decide, by decide +kernel⟩ ⟨Nat.le_of_ble_eq_true rfl, Nat.le_of_ble_eq_true rfl, rfl, rfl⟩ rfl rfl (Nat.le_of_ble_eq_true rfl) hl.1 ⟨Nat.zero_le _, Nat.zero_le _⟩ dX4_oldVersionsWithout_51 (fun r_51 G_51 H locs hR hP hS => ?_)
          obtain ⟨rfl, hG_51⟩ := hR
          rw [hG_51] at hP
          clear hG_51
          first
            | refine kadd hx hb dX4_oldVersionsWithout_54 (by with_reducible rfl) (by with_reducible rfl) ?_
            | refine lv_iadd hx hb dX4_oldVersionsWithout_54 ?_
          refine kist hx hb dX4_oldVersionsWithout_55 rfl hl (by decide) (kp_6_2 rfl) (fun ls hl => ?_)
          first
            | refine kinc (q := 3) hx hb dX4_oldVersionsWithout_56 hl rfl (by decide) (kp_6_3 rfl) (fun ls hl => ?_)
            | refine kincG (q := 3) hx hb dX4_oldVersionsWithout_56 hl rfl (by decide) (kp_6_3 rfl) (fun ls hl => ?_)
          refine lv_goto (tgt := 4) hx hb dX4_oldVersionsWithout_59 (by decide) ?_
          exact ih_4 _ _ _ _ _ (by omega) (by omega) (by first | exact sm_s iv_1 (congrArg bcF (if_pos c_38)) | exact sm_s iv_1 (congrArg bcF (if_neg c_38))) hP hS (lv_sub hl [0,1,2,3] rfl)
  exact lp_4 _ 0 0 _ _ _ (Nat.lt_succ_self _) (Nat.zero_le _) (rfl) hP hS (lv_sub hl [0,1,2,3] rfl)
end
section
/-- which places behind the newest stay -/
def rf (w : Int32) : Nat → Nat := fun t => if 1 ≤ t ∧ hw w t then 1 else 0
theorem rf_le (w : Int32) (i : Nat) : cn (rf w) i ≤ i - 1 := by
  induction i with
  | zero => exact Nat.le_refl _
  | succ i ih =>
    rw [cn]
    have h : rf w i ≤ 1 := by unfold rf; split <;> omega
    rcases Nat.eq_zero_or_pos i with rfl | hp
    · have h0 : rf w 0 = 0 := by unfold rf; rw [if_neg (fun z => absurd z.1 (by omega))]
      rw [h0]; exact Nat.le_refl _
    · omega
theorem rf_z {w : Int32} {x i : Nat} (h : x = 1 + cn (rf w) i) (hz : ¬ hw w i) : x = 1 + cn (rf w) (i + 1) := by
  rw [cn, rf, if_neg (fun z => hz z.2)]; exact h
theorem rf_p {w : Int32} {x i : Nat} (h : x = 1 + cn (rf w) i) (h1 : 1 ≤ i) (hz : hw w i) : x + 1 = 1 + cn (rf w) (i + 1) := by
  rw [cn, rf, if_pos ⟨h1, hz⟩, h]; rfl
def RT (G G' : Nat → Nat → Int32) (j c P : Nat) (w : Int32) : Prop := G' (cB j c) 2 = nI (1 + cn (rf w) P) ∧ G' (cV j c) 0 = G (cV j c) 0 ∧ G' (cM j c) 0 = G (cM j c) 0 ∧ ∀ p, 1 ≤ p → p < P → hw w p → G' (cV j c) (1 + cn (rf w) p) = G (cV j c) p ∧ G' (cM j c) (1 + cn (rf w) p) = G (cM j c) p
theorem rf_keep {w : Int32} {i : Nat} {Z : Nat → Prop} (h : ∀ p, 1 ≤ p → p < i → hw w p → Z p) (hz : ¬ hw w i) : ∀ p, 1 ≤ p → p < i + 1 → hw w p → Z p := fun p h1 h2 h3 => by
  rcases Nat.lt_or_ge p i with q | q
  · exact h p h1 q h3
  · rw [show p = i by omega] at h3; exact absurd h3 hz
theorem rf_lt {w : Int32} {p i : Nat} (h1 : 1 ≤ p) (h : p < i) (hz : hw w p) : cn (rf w) p < cn (rf w) i := by
  have h2 : cn (rf w) (p + 1) ≤ cn (rf w) i := cn_mono h
  rw [cn, rf, if_pos ⟨h1, hz⟩] at h2
  omega
theorem rf_step {w : Int32} {x i kV kM : Nat} {G G1 : Nat → Nat → Int32} (h : x = 1 + cn (rf w) i) (h3 : ∀ p, x ≤ p → G1 kV p = G kV p ∧ G1 kM p = G kM p) (h5 : ∀ p, 1 ≤ p → p < i → hw w p → G1 kV (1 + cn (rf w) p) = G kV p ∧ G1 kM (1 + cn (rf w) p) = G kM p) (h1 : 1 ≤ i) (hx : x ≤ i) (z : kV ≠ kM) : ∀ p, 1 ≤ p → p < i + 1 → hw w p → gs (gs G1 kV x (G1 kV i)) kM x (gs G1 kV x (G1 kV i) kM i) kV (1 + cn (rf w) p) = G kV p ∧ gs (gs G1 kV x (G1 kV i)) kM x (gs G1 kV x (G1 kV i) kM i) kM (1 + cn (rf w) p) = G kM p := by
  intro p hp1 hp2 hp3
  rcases Nat.lt_or_ge p i with q | q
  · have q1 := rf_lt hp1 q hp3
    have q2 := h5 p hp1 q hp3
    have e : 1 + cn (rf w) p ≠ x := by omega
    exact ⟨by simpa [gs, z, e] using q2.1, by simpa [gs, z.symm, e] using q2.2⟩
  · have e : p = i := by omega
    subst e
    have q := h3 p hx
    rw [← h]
    exact ⟨by simpa [gs, z] using q.1, by simpa [gs, z.symm] using q.2⟩
set_option maxHeartbeats 4000000 in
set_option maxRecDepth 100000 in
theorem c_X0_copyFrom (l : Launch) {D : va_G} {τ : Nat → ClassId} {ad : Nat → Nat} (hI : kInj ad) {G : Nat → Nat → Int32} {j c j2 c2 : Nat} (hj : j < 7) (hc : c < 12) (hj2 : j2 < 7) (hc2 : c2 < 12) : kMv l yX0_copyFrom cX0_copyFrom 2 { frames := 1, cells := 0, slots := 0, locals := 40 } D τ ad [.ref (ad (cB j c)), .ref (ad (cB j2 c2))] G (fun G' => (∀ k, k ≠ cB j c → k ≠ cV j c → k ≠ cM j c → G' k = G k) ∧ (∀ p, p < 10 → G' (cV j c) p = G (cV j2 c2) p ∧ G' (cM j c) p = G (cM j2 c2) p) ∧ G' (cB j c) 2 = G (cB j2 c2) 2) := by
  refine kMetV (own := RX0) (by decide) rfl (Nat.le_of_ble_eq_true rfl) ?_
  intro p9 e9 s9 m9 args9 below9 meth9 c9 Q9 X hx hb hP hS hret ls hl
  have hPs := hP
  have hl : lv_has ls 2 [(0, .ref (ad (cB j c))), (1, .ref (ad (cB j2 c2)))] := hl
  refine lv_aload_n hx hb dX0_copyFrom_0 rfl (lv_at hl 1 rfl) ?_
  refine kget X hP (oC (by first | assumption | omega) (by first | assumption | omega)) g_X0_9 rfl dX0_copyFrom_1 ?_
  refine lv_iconst (v := nI 0) hx hb dX0_copyFrom_4 (by decide) ?_
  refine lv_aload_n hx hb dX0_copyFrom_5 rfl (lv_at hl 0 rfl) ?_
  refine kget X hP (oC (by first | assumption | omega) (by first | assumption | omega)) g_X0_9 rfl dX0_copyFrom_6 ?_
  refine lv_iconst (v := nI 0) hx hb dX0_copyFrom_9 (by decide) ?_
  refine lv_bipush (v := nI 10) hx hb dX0_copyFrom_10 (by decide) ?_
  refine kcopy X hI hP hS (aV hj2 hc2) (aV hj hc) ⟨kWs_of 392 (by decide +kernel) rfl, kWs_of 394 (by decide +kernel) rfl, kWs_of 393 (by decide +kernel) rfl, kWs_of 8 (by decide +kernel) rfl⟩ (by omega) (by omega) ⟨Nat.le_of_ble_eq_true rfl, Nat.le_of_ble_eq_true rfl⟩ (Nat.le_of_ble_eq_true rfl) hl.1 dX0_copyFrom_12 (fun H locs hP hS => ?_)
  refine lv_aload_n hx hb dX0_copyFrom_15 rfl (lv_at hl 1 rfl) ?_
  refine kget X hP (oC (by first | assumption | omega) (by first | assumption | omega)) g_X0_15 rfl dX0_copyFrom_16 ?_
  refine lv_iconst (v := nI 0) hx hb dX0_copyFrom_19 (by decide) ?_
  refine lv_aload_n hx hb dX0_copyFrom_20 rfl (lv_at hl 0 rfl) ?_
  refine kget X hP (oC (by first | assumption | omega) (by first | assumption | omega)) g_X0_15 rfl dX0_copyFrom_21 ?_
  refine lv_iconst (v := nI 0) hx hb dX0_copyFrom_24 (by decide) ?_
  refine lv_bipush (v := nI 10) hx hb dX0_copyFrom_25 (by decide) ?_
  refine kcopy X hI hP hS (aM hj2 hc2) (aM hj hc) ⟨kWs_of 392 (by decide +kernel) rfl, kWs_of 394 (by decide +kernel) rfl, kWs_of 393 (by decide +kernel) rfl, kWs_of 8 (by decide +kernel) rfl⟩ (by omega) (by omega) ⟨Nat.le_of_ble_eq_true rfl, Nat.le_of_ble_eq_true rfl⟩ (Nat.le_of_ble_eq_true rfl) hl.1 dX0_copyFrom_27 (fun H locs hP hS => ?_)
  refine lv_aload_n hx hb dX0_copyFrom_30 rfl (lv_at hl 0 rfl) ?_
  refine lv_aload_n hx hb dX0_copyFrom_31 rfl (lv_at hl 1 rfl) ?_
  refine kget X hP (oC (by first | assumption | omega) (by first | assumption | omega)) g_X0_18 rfl dX0_copyFrom_32 ?_
  refine kput X hI hP hS (oC (by first | assumption | omega) (by first | assumption | omega)) g_X0_18 (fun _ => rfl) rfl (fun _ => Nat.le_of_ble_eq_true rfl) rfl rfl dX0_copyFrom_35 (fun H locs hP hS => ?_)
  exact hret _ _ _ _ _ (by
      have z0 : cM j2 c2 ≠ cV j c := by unfold cM cV; omega
      have z1 : cB j2 c2 ≠ cM j c := by unfold cB cM; omega
      have z2 : cB j2 c2 ≠ cV j c := by unfold cB cV; omega
      have z3 : cV j c ≠ cB j c := by unfold cV cB; omega
      have z4 : cM j c ≠ cB j c := by unfold cM cB; omega
      have z5 : cV j c ≠ cM j c := by unfold cV cM; omega
      refine ⟨fun k h1 h2 h3 => ?_, fun p hp => ⟨?_, ?_⟩, ?_⟩
      · funext f; simp [gs, gc, h1, h2, h3]
      · simp [gs, gc, cpy, z3, z5, hp]
      · simp [gs, gc, cpy, z0, z4, hp]
      · simp [gs, gc, z1, z2]) hP hS dX0_copyFrom_38

set_option maxHeartbeats 4000000 in
set_option maxRecDepth 100000 in
theorem c_X0_push (l : Launch) {D : va_G} {τ : Nat → ClassId} {ad : Nat → Nat} (hI : kInj ad) {G : Nat → Nat → Int32} {j c P : Nat} {x y : Int32} (hj : j < 7) (hc : c < 12) (hpl : G (cB j c) 2 = nI P) (hp9 : P ≤ 9) : kMv l yX0_push cX0_push 3 { frames := 1, cells := 0, slots := 0, locals := 40 } D τ ad [.ref (ad (cB j c)), .int x, .int y] G (fun G' => (∀ k, k ≠ cB j c → k ≠ cV j c → k ≠ cM j c → G' k = G k) ∧ G' (cB j c) 2 = nI (P + 1) ∧ G' (cV j c) 0 = x ∧ G' (cM j c) 0 = y ∧ ∀ p, p < P → G' (cV j c) (p + 1) = G (cV j c) p ∧ G' (cM j c) (p + 1) = G (cM j c) p) := by
  refine kMetV (own := RX0) (by decide) rfl (Nat.le_of_ble_eq_true rfl) ?_
  intro p9 e9 s9 m9 args9 below9 meth9 c9 Q9 X hx hb hP hS hret ls hl
  have hPs := hP
  have hl : lv_has ls 3 [(0, .ref (ad (cB j c))), (1, .int x), (2, .int y)] := hl
  have z0 : cB j c ≠ cV j c := by unfold cB cV; omega
  have z1 : cB j c ≠ cM j c := by unfold cB cM; omega
  have z2 : cV j c ≠ cM j c := by unfold cV cM; omega
  refine lv_aload_n hx hb dX0_push_0 rfl (lv_at hl 0 rfl) ?_
  refine kget X hP (oC (by first | assumption | omega) (by first | assumption | omega)) g_X0_18 (congrArg (fun z => some (Value.int z)) hpl) dX0_push_1 ?_
  refine lv_bipush (v := nI 10) hx hb dX0_push_4 (by decide) ?_
  first
    | refine kic_ge (tgt := 19) hx hb dX0_push_6 (by decide) (by with_reducible rfl) (by with_reducible rfl) (by omega) (by omega) (fun c_6 => ?_) (fun c_6 => ?_)
    | refine lv_icmp_ge (tgt := 19) hx hb dX0_push_6 (by decide) (fun c_6 => ?_) (fun c_6 => ?_)
  · skip
    exact absurd c_6 (by omega)
  · skip
    refine lv_aload_n hx hb dX0_push_9 rfl (lv_at hl 0 rfl) ?_
    refine lv_dup hx hb dX0_push_10 rfl ?_
    refine kget X hP (oC (by first | assumption | omega) (by first | assumption | omega)) g_X0_18 (congrArg (fun z => some (Value.int z)) hpl) dX0_push_11 ?_
    refine lv_iconst (v := nI 1) hx hb dX0_push_14 (by decide) ?_
    first
      | refine kadd hx hb dX0_push_15 (by with_reducible rfl) (by with_reducible rfl) ?_
      | refine lv_iadd hx hb dX0_push_15 ?_
    refine kput X hI hP hS (oC (by first | assumption | omega) (by first | assumption | omega)) g_X0_18 (fun _ => rfl) rfl (fun _ => Nat.le_of_ble_eq_true rfl) rfl rfl dX0_push_16 (fun H locs hP hS => ?_)
    refine lv_aload_n hx hb dX0_push_19 rfl (lv_at hl 0 rfl) ?_
    refine kget X hP (oC (by first | assumption | omega) (by first | assumption | omega)) g_X0_9 rfl dX0_push_20 ?_
    refine lv_iconst (v := nI 0) hx hb dX0_push_23 (by decide) ?_
    refine lv_aload_n hx hb dX0_push_24 rfl (lv_at hl 0 rfl) ?_
    refine kget X hP (oC (by first | assumption | omega) (by first | assumption | omega)) g_X0_9 rfl dX0_push_25 ?_
    refine lv_iconst (v := nI 1) hx hb dX0_push_28 (by decide) ?_
    refine lv_aload_n hx hb dX0_push_29 rfl (lv_at hl 0 rfl) ?_
    refine kget X hP (oC (by first | assumption | omega) (by first | assumption | omega)) g_X0_18 (congrArg (fun z => some (Value.int z)) (show gs G (cB j c) 2 (nI (P + 1)) (cB j c) 2 = nI (P + 1) from by simp [gs])) dX0_push_30 ?_
    refine lv_iconst (v := nI 1) hx hb dX0_push_33 (by decide) ?_
    first
      | refine ksub hx hb dX0_push_34 (by with_reducible rfl) (by with_reducible rfl) (by omega) ?_
      | refine lv_isub hx hb dX0_push_34 ?_
    refine kcopy X hI hP hS (aV hj hc) (aV hj hc) ⟨kWs_of 392 (by decide +kernel) rfl, kWs_of 394 (by decide +kernel) rfl, kWs_of 393 (by decide +kernel) rfl, kWs_of 8 (by decide +kernel) rfl⟩ (by omega) (by omega) ⟨Nat.le_of_ble_eq_true rfl, Nat.le_of_ble_eq_true rfl⟩ (Nat.le_of_ble_eq_true rfl) hl.1 dX0_push_35 (fun H locs hP hS => ?_)
    refine lv_aload_n hx hb dX0_push_38 rfl (lv_at hl 0 rfl) ?_
    refine kget X hP (oC (by first | assumption | omega) (by first | assumption | omega)) g_X0_15 rfl dX0_push_39 ?_
    refine lv_iconst (v := nI 0) hx hb dX0_push_42 (by decide) ?_
    refine lv_aload_n hx hb dX0_push_43 rfl (lv_at hl 0 rfl) ?_
    refine kget X hP (oC (by first | assumption | omega) (by first | assumption | omega)) g_X0_15 rfl dX0_push_44 ?_
    refine lv_iconst (v := nI 1) hx hb dX0_push_47 (by decide) ?_
    refine lv_aload_n hx hb dX0_push_48 rfl (lv_at hl 0 rfl) ?_
    refine kget X hP (oC (by first | assumption | omega) (by first | assumption | omega)) g_X0_18 (congrArg (fun z => some (Value.int z)) (show gc (gs G (cB j c) 2 (nI (P + 1))) (cV j c) (cV j c) 0 1 (P + 1 - 1) (cB j c) 2 = nI (P + 1) from by simp [gs, gc, z0])) dX0_push_49 ?_
    refine lv_iconst (v := nI 1) hx hb dX0_push_52 (by decide) ?_
    first
      | refine ksub hx hb dX0_push_53 (by with_reducible rfl) (by with_reducible rfl) (by omega) ?_
      | refine lv_isub hx hb dX0_push_53 ?_
    refine kcopy X hI hP hS (aM hj hc) (aM hj hc) ⟨kWs_of 392 (by decide +kernel) rfl, kWs_of 394 (by decide +kernel) rfl, kWs_of 393 (by decide +kernel) rfl, kWs_of 8 (by decide +kernel) rfl⟩ (by omega) (by omega) ⟨Nat.le_of_ble_eq_true rfl, Nat.le_of_ble_eq_true rfl⟩ (Nat.le_of_ble_eq_true rfl) hl.1 dX0_push_54 (fun H locs hP hS => ?_)
    refine lv_aload_n hx hb dX0_push_57 rfl (lv_at hl 0 rfl) ?_
    refine kget X hP (oC (by first | assumption | omega) (by first | assumption | omega)) g_X0_9 rfl dX0_push_58 ?_
    refine lv_iconst (v := nI 0) hx hb dX0_push_61 (by decide) ?_
    refine lv_iload_n hx hb dX0_push_62 rfl (lv_at hl 1 rfl) ?_
    refine kiast X hI hP hS (aV hj hc) (by omega) dX0_push_63 (fun H locs hP hS => ?_)
    refine lv_aload_n hx hb dX0_push_64 rfl (lv_at hl 0 rfl) ?_
    refine kget X hP (oC (by first | assumption | omega) (by first | assumption | omega)) g_X0_15 rfl dX0_push_65 ?_
    refine lv_iconst (v := nI 0) hx hb dX0_push_68 (by decide) ?_
    refine lv_iload_n hx hb dX0_push_69 rfl (lv_at hl 2 rfl) ?_
    refine kiast X hI hP hS (aM hj hc) (by omega) dX0_push_70 (fun H locs hP hS => ?_)
    exact hret _ _ _ _ _ (by
        refine ⟨fun k h1 h2 h3 => ?_, ?_, ?_, ?_, fun p hp => ⟨?_, ?_⟩⟩
        · funext f; simp [gs, gc, h1, h2, h3]
        · simp [gs, gc, z0, z1]
        · simp [gs, gc, z2]
        · simp [gs]
        · simp [gs, gc, cpy, z2, z0.symm, hp]; omega
        · simp [gs, gc, cpy, z2.symm, z1.symm, hp]; omega) hP hS dX0_push_71

set_option maxHeartbeats 4000000 in
set_option maxRecDepth 100000 in
theorem c_X0_retainOld (l : Launch) {D : va_G} {τ : Nat → ClassId} {ad : Nat → Nat} (hI : kInj ad) {G : Nat → Nat → Int32} {j c P : Nat} {w : Int32} (hj : j < 7) (hc : c < 12) (hpl : G (cB j c) 2 = nI P) (hp1 : 1 ≤ P) (hp10 : P ≤ 10) : kM l yX0_retainOld cX0_retainOld 4 (some .int) { frames := 0, cells := 0, slots := 0, locals := 0 } D τ ad [.ref (ad (cB j c)), .int w] G (fun v G' => v = nI (P - (1 + cn (rf w) P)) ∧ (∀ k, k ≠ cB j c → k ≠ cV j c → k ≠ cM j c → G' k = G k) ∧ RT G G' j c P w) := by
  refine kMet (own := RX0) (by decide) rfl (Nat.le_of_ble_eq_true rfl) ?_
  intro p9 e9 s9 m9 args9 below9 meth9 c9 Q9 X hx hb hP hS hret ls hl
  have hPs := hP
  have hl : lv_has ls 4 [(0, .ref (ad (cB j c))), (1, .int w)] := hl
  have z0 : cB j c ≠ cV j c := by unfold cB cV; omega
  have z1 : cB j c ≠ cM j c := by unfold cB cM; omega
  have z2 : cV j c ≠ cM j c := by unfold cV cM; omega
  refine lv_iconst (v := nI 1) hx hb dX0_retainOld_0 (by decide) ?_
  refine kist hx hb dX0_retainOld_1 rfl hl (by decide) (kp_2_2 rfl) (fun ls hl => ?_)
  refine lv_iconst (v := nI 1) hx hb dX0_retainOld_2 (by decide) ?_
  refine kist hx hb dX0_retainOld_3 rfl hl (by decide) (kp_3_3 rfl) (fun ls hl => ?_)
  have lp_4 : ∀ (d : Nat) (x i : Nat) (G1 : Nat → Nat → Int32) (H : Heap) (locs : List Loc) (ls : Array Slot), (P - i) < d → (1 ≤ i ∧ i ≤ P) → (x = 1 + cn (rf w) i) → (∀ k, k ≠ cV j c → k ≠ cM j c → G1 k = G k) → (∀ p, x ≤ p → G1 (cV j c) p = G (cV j c) p ∧ G1 (cM j c) p = G (cM j c) p) → (G1 (cV j c) 0 = G (cV j c) 0 ∧ G1 (cM j c) 0 = G (cM j c) 0) → (∀ p, 1 ≤ p → p < i → hw w p → G1 (cV j c) (1 + cn (rf w) p) = G (cV j c) p ∧ G1 (cM j c) (1 + cn (rf w) p) = G (cM j c) p) → va_P D vwCl (kW τ ad G1) H → va_S (kAd ad) s9.heap H locs → lv_has ls 4 [(0, .ref (ad (cB j c))), (1, .int w), (2, .int (nI x)), (3, .int (nI i))] → W p9 l e9 { frames := 0, cells := 0, slots := 0, locals := 0 } s9 m9 args9 below9 meth9 c9 H locs 0 0 Q9 (F0 m9 4 ls []) := by
    intro d
    induction d with
    | zero => exact fun _ _ _ _ _ _ hd => absurd hd (Nat.not_lt_zero _)
    | succ d ih_4 =>
      intro x i G1 H locs ls hd iv_0 iv_1 iv_2 iv_3 iv_4 iv_5 hP hS hl
      refine lv_iload_n hx hb dX0_retainOld_4 rfl (lv_at hl 3 rfl) ?_
      refine lv_aload_n hx hb dX0_retainOld_5 rfl (lv_at hl 0 rfl) ?_
      refine kget X hP (oC (by first | assumption | omega) (by first | assumption | omega)) g_X0_18 (congrArg (fun z => some (Value.int z)) (show G1 (cB j c) 2 = nI P from by rw [iv_2 _ z0 z1]; exact hpl)) dX0_retainOld_6 ?_
      first
        | refine kic_ge (tgt := 53) hx hb dX0_retainOld_9 (by decide) (by with_reducible rfl) (by with_reducible rfl) (by omega) (by omega) (fun c_9 => ?_) (fun c_9 => ?_)
        | refine lv_icmp_ge (tgt := 53) hx hb dX0_retainOld_9 (by decide) (fun c_9 => ?_) (fun c_9 => ?_)
      · skip
        refine lv_aload_n hx hb dX0_retainOld_53 rfl (lv_at hl 0 rfl) ?_
        refine kget X hP (oC (by first | assumption | omega) (by first | assumption | omega)) g_X0_18 (congrArg (fun z => some (Value.int z)) (show G1 (cB j c) 2 = nI P from by rw [iv_2 _ z0 z1]; exact hpl)) dX0_retainOld_54 ?_
        refine lv_iload_n hx hb dX0_retainOld_57 rfl (lv_at hl 2 rfl) ?_
        refine ksub hx hb dX0_retainOld_58 (by with_reducible rfl) (by with_reducible rfl) (by have q := rf_le w i; omega) ?_
        refine kist hx hb dX0_retainOld_59 rfl hl (by decide) (kp_4_3 rfl) (fun ls hl => ?_)
        refine lv_aload_n hx hb dX0_retainOld_60 rfl (lv_at hl 0 rfl) ?_
        refine lv_iload_n hx hb dX0_retainOld_61 rfl (lv_at hl 2 rfl) ?_
        refine kput X hI hP hS (oC (by first | assumption | omega) (by first | assumption | omega)) g_X0_18 (fun _ => rfl) rfl (fun _ => Nat.le_of_ble_eq_true rfl) rfl rfl dX0_retainOld_62 (fun H locs hP hS => ?_)
        refine lv_iload_n hx hb dX0_retainOld_65 rfl (lv_at hl 3 rfl) ?_
        exact hret _ _ _ _ _ _ (by
            have ei : i = P := (by omega)
            rw [ei] at iv_1 iv_5
            refine ⟨by rw [iv_1], fun k h1 h2 h3 => ?_, ?_, ?_, ?_, fun p h1 h2 h3 => ?_⟩
            · rw [gs_other h1]; exact iv_2 k h2 h3
            · simp [gs, iv_1]
            · rw [gs_other z0.symm]; exact iv_4.1
            · rw [gs_other z1.symm]; exact iv_4.2
            · rw [gs_other z0.symm, gs_other z1.symm]; exact iv_5 p h1 h2 h3) hP hS dX0_retainOld_66
      · skip
        have hxi : cn (rf w) i ≤ i - 1 := rf_le w i
        refine lv_iload_n hx hb dX0_retainOld_12 rfl (lv_at hl 1 rfl) ?_
        refine lv_iload_n hx hb dX0_retainOld_13 rfl (lv_at hl 3 rfl) ?_
        refine lv_ishr hx hb dX0_retainOld_14 ?_
        refine lv_iconst (v := nI 1) hx hb dX0_retainOld_15 (by decide) ?_
        refine lv_iand hx hb dX0_retainOld_16 ?_
        first
          | refine kif_eq (tgt := 47) hx hb dX0_retainOld_17 (by decide) (fun c_17 => ?_) (fun c_17 => ?_)
          | refine lv_if_eq (tgt := 47) hx hb dX0_retainOld_17 (by decide) (fun c_17 => ?_) (fun c_17 => ?_)
        · skip
          first
            | refine kinc (q := 3) hx hb dX0_retainOld_47 hl rfl (by decide) (kp_4_3 rfl) (fun ls hl => ?_)
            | refine kincG (q := 3) hx hb dX0_retainOld_47 hl rfl (by decide) (kp_4_3 rfl) (fun ls hl => ?_)
          refine lv_goto (tgt := 4) hx hb dX0_retainOld_50 (by decide) ?_
          exact ih_4 _ _ _ _ _ _ (by omega) (by omega) (rf_z iv_1 (fun z => z c_17)) (iv_2) (iv_3) (iv_4) (rf_keep iv_5 (fun z => absurd c_17 z)) hP hS (lv_sub hl [0,1,2,3] rfl)
        · skip
          refine lv_aload_n hx hb dX0_retainOld_20 rfl (lv_at hl 0 rfl) ?_
          refine kget X hP (oC (by first | assumption | omega) (by first | assumption | omega)) g_X0_9 rfl dX0_retainOld_21 ?_
          refine lv_iload_n hx hb dX0_retainOld_24 rfl (lv_at hl 2 rfl) ?_
          refine lv_aload_n hx hb dX0_retainOld_25 rfl (lv_at hl 0 rfl) ?_
          refine kget X hP (oC (by first | assumption | omega) (by first | assumption | omega)) g_X0_9 rfl dX0_retainOld_26 ?_
          refine lv_iload_n hx hb dX0_retainOld_29 rfl (lv_at hl 3 rfl) ?_
          refine kiald X hP (aV hj hc) (by omega) dX0_retainOld_30 ?_
          refine kiast X hI hP hS (aV hj hc) (by omega) dX0_retainOld_31 (fun H locs hP hS => ?_)
          refine lv_aload_n hx hb dX0_retainOld_32 rfl (lv_at hl 0 rfl) ?_
          refine kget X hP (oC (by first | assumption | omega) (by first | assumption | omega)) g_X0_15 rfl dX0_retainOld_33 ?_
          refine lv_iload_n hx hb dX0_retainOld_36 rfl (lv_at hl 2 rfl) ?_
          refine lv_aload_n hx hb dX0_retainOld_37 rfl (lv_at hl 0 rfl) ?_
          refine kget X hP (oC (by first | assumption | omega) (by first | assumption | omega)) g_X0_15 rfl dX0_retainOld_38 ?_
          refine lv_iload_n hx hb dX0_retainOld_41 rfl (lv_at hl 3 rfl) ?_
          refine kiald X hP (aM hj hc) (by omega) dX0_retainOld_42 ?_
          refine kiast X hI hP hS (aM hj hc) (by omega) dX0_retainOld_43 (fun H locs hP hS => ?_)
          first
            | refine kinc (q := 2) hx hb dX0_retainOld_44 hl rfl (by decide) (kp_4_2 rfl) (fun ls hl => ?_)
            | refine kincG (q := 2) hx hb dX0_retainOld_44 hl rfl (by decide) (kp_4_2 rfl) (fun ls hl => ?_)
          first
            | refine kinc (q := 3) hx hb dX0_retainOld_47 hl rfl (by decide) (kp_4_3 rfl) (fun ls hl => ?_)
            | refine kincG (q := 3) hx hb dX0_retainOld_47 hl rfl (by decide) (kp_4_3 rfl) (fun ls hl => ?_)
          refine lv_goto (tgt := 4) hx hb dX0_retainOld_50 (by decide) ?_
          exact ih_4 _ _ _ _ _ _ (by omega) (by omega) (rf_p iv_1 iv_0.1 c_17) (fun k h1 h2 => by rw [gs_other h2, gs_other h1]; exact iv_2 k h1 h2) (fun p hp => by have q := iv_3 p (by omega); have e : p ≠ x := (by omega); exact ⟨by simpa [gs, z2, e] using q.1, by simpa [gs, e] using q.2⟩) (by have e : (0 : Nat) ≠ x := (by omega); exact ⟨by simpa [gs, z2, e] using iv_4.1, by simpa [gs, e] using iv_4.2⟩) (rf_step iv_1 iv_3 iv_5 (by omega) (by omega) z2) hP hS (lv_sub hl [0,1,2,3] rfl)
  exact lp_4 _ 1 1 G _ _ _ (Nat.lt_succ_self _) (⟨Nat.le_refl _, hp1⟩) (rfl) (fun _ _ _ => rfl) (fun _ _ => ⟨rfl, rfl⟩) (⟨rfl, rfl⟩) (fun p h1 h2 => absurd h1 (by omega)) hP hS (lv_sub hl [0,1,2,3] rfl)
end
section
theorem dueF_congr {G G' : Nat → Nat → Int32} {j n r : Nat} {P : Nat → Nat} (h : ∀ k, k ≠ sD j → G' k = G k) (hr : r < 40) : dueF G' j n P r = dueF G j n P r := by
  have e1 : ∀ i, G' (rN j i) = G (rN j i) := fun i => h _ (by unfold rN sD; omega)
  have e2 : ∀ c, G' (cM j c) = G (cM j c) := fun c => h _ (by unfold cM sD; omega)
  have e3 : G' (sB j) = G (sB j) := h _ (by unfold sB sD; omega)
  unfold dueF shF pyF
  simp only [e1, e2, e3]
set_option maxHeartbeats 4000000 in
set_option maxRecDepth 100000 in
theorem c_X3_copyFrom (l : Launch) {D : va_G} {τ : Nat → ClassId} {ad : Nat → Nat} (hI : kInj ad) {G : Nat → Nat → Int32} {j r j2 r2 : Nat} (hj : j < 7) (hr : r < 40) (hj2 : j2 < 7) (hr2 : r2 < 40) (hz : G (rN j2 r2) 8 = 0 ∨ G (rN j2 r2) 8 = 1) : kMv l yX3_copyFrom cX3_copyFrom 2 { frames := 1, cells := 0, slots := 0, locals := 40 } D τ ad [.ref (ad (rN j r)), .ref (ad (rN j2 r2))] G (fun G' => (∀ k, k ≠ rN j r → k ≠ rW j r → G' k = G k) ∧ (∀ p, p < 12 → G' (rW j r) p = G (rW j2 r2) p) ∧ ∀ f, 1 ≤ f → f ≤ 8 → G' (rN j r) f = G (rN j2 r2) f) := by
  refine kMetV (own := RX3) (by decide) rfl (Nat.le_of_ble_eq_true rfl) ?_
  intro p9 e9 s9 m9 args9 below9 meth9 c9 Q9 X hx hb hP hS hret ls hl
  have hPs := hP
  have hl : lv_has ls 2 [(0, .ref (ad (rN j r))), (1, .ref (ad (rN j2 r2)))] := hl
  have z0 : rN j2 r2 ≠ rW j r := by unfold rN rW; omega
  have z1 : rW j r ≠ rN j r := by unfold rW rN; omega
  refine lv_aload_n hx hb dX3_copyFrom_0 rfl (lv_at hl 1 rfl) ?_
  refine kget X hP (oR (by first | assumption | omega) (by first | assumption | omega)) g_X3_9 rfl dX3_copyFrom_1 ?_
  refine lv_iconst (v := nI 0) hx hb dX3_copyFrom_4 (by decide) ?_
  refine lv_aload_n hx hb dX3_copyFrom_5 rfl (lv_at hl 0 rfl) ?_
  refine kget X hP (oR (by first | assumption | omega) (by first | assumption | omega)) g_X3_9 rfl dX3_copyFrom_6 ?_
  refine lv_iconst (v := nI 0) hx hb dX3_copyFrom_9 (by decide) ?_
  refine lv_bipush (v := nI 12) hx hb dX3_copyFrom_10 (by decide) ?_
  refine kcopy X hI hP hS (aW hj2 hr2) (aW hj hr) ⟨kWs_of 399 (by decide +kernel) rfl, kWs_of 394 (by decide +kernel) rfl, kWs_of 393 (by decide +kernel) rfl, kWs_of 8 (by decide +kernel) rfl⟩ (by omega) (by omega) ⟨Nat.le_of_ble_eq_true rfl, Nat.le_of_ble_eq_true rfl⟩ (Nat.le_of_ble_eq_true rfl) hl.1 dX3_copyFrom_12 (fun H locs hP hS => ?_)
  refine lv_aload_n hx hb dX3_copyFrom_15 rfl (lv_at hl 0 rfl) ?_
  refine lv_aload_n hx hb dX3_copyFrom_16 rfl (lv_at hl 1 rfl) ?_
  refine kget X hP (oR (by first | assumption | omega) (by first | assumption | omega)) g_X3_15 rfl dX3_copyFrom_17 ?_
  refine kput X hI hP hS (oR (by first | assumption | omega) (by first | assumption | omega)) g_X3_15 (fun _ => rfl) rfl (fun _ => Nat.le_of_ble_eq_true rfl) rfl rfl dX3_copyFrom_20 (fun H locs hP hS => ?_)
  refine lv_aload_n hx hb dX3_copyFrom_23 rfl (lv_at hl 0 rfl) ?_
  refine lv_aload_n hx hb dX3_copyFrom_24 rfl (lv_at hl 1 rfl) ?_
  refine kget X hP (oR (by first | assumption | omega) (by first | assumption | omega)) g_X3_19 rfl dX3_copyFrom_25 ?_
  refine kput X hI hP hS (oR (by first | assumption | omega) (by first | assumption | omega)) g_X3_19 (fun _ => rfl) rfl (fun _ => Nat.le_of_ble_eq_true rfl) rfl rfl dX3_copyFrom_28 (fun H locs hP hS => ?_)
  refine lv_aload_n hx hb dX3_copyFrom_31 rfl (lv_at hl 0 rfl) ?_
  refine lv_aload_n hx hb dX3_copyFrom_32 rfl (lv_at hl 1 rfl) ?_
  refine kget X hP (oR (by first | assumption | omega) (by first | assumption | omega)) g_X3_22 rfl dX3_copyFrom_33 ?_
  refine kput X hI hP hS (oR (by first | assumption | omega) (by first | assumption | omega)) g_X3_22 (fun _ => rfl) rfl (fun _ => Nat.le_of_ble_eq_true rfl) rfl rfl dX3_copyFrom_36 (fun H locs hP hS => ?_)
  refine lv_aload_n hx hb dX3_copyFrom_39 rfl (lv_at hl 0 rfl) ?_
  refine lv_aload_n hx hb dX3_copyFrom_40 rfl (lv_at hl 1 rfl) ?_
  refine kget X hP (oR (by first | assumption | omega) (by first | assumption | omega)) g_X3_25 rfl dX3_copyFrom_41 ?_
  refine kput X hI hP hS (oR (by first | assumption | omega) (by first | assumption | omega)) g_X3_25 (fun _ => rfl) rfl (fun _ => Nat.le_of_ble_eq_true rfl) rfl rfl dX3_copyFrom_44 (fun H locs hP hS => ?_)
  refine lv_aload_n hx hb dX3_copyFrom_47 rfl (lv_at hl 0 rfl) ?_
  refine lv_aload_n hx hb dX3_copyFrom_48 rfl (lv_at hl 1 rfl) ?_
  refine kget X hP (oR (by first | assumption | omega) (by first | assumption | omega)) g_X3_28 rfl dX3_copyFrom_49 ?_
  refine kput X hI hP hS (oR (by first | assumption | omega) (by first | assumption | omega)) g_X3_28 (fun _ => rfl) rfl (fun _ => Nat.le_of_ble_eq_true rfl) rfl rfl dX3_copyFrom_52 (fun H locs hP hS => ?_)
  refine lv_aload_n hx hb dX3_copyFrom_55 rfl (lv_at hl 0 rfl) ?_
  refine lv_aload_n hx hb dX3_copyFrom_56 rfl (lv_at hl 1 rfl) ?_
  refine kget X hP (oR (by first | assumption | omega) (by first | assumption | omega)) g_X3_31 rfl dX3_copyFrom_57 ?_
  refine kput X hI hP hS (oR (by first | assumption | omega) (by first | assumption | omega)) g_X3_31 (fun _ => rfl) rfl (fun _ => Nat.le_of_ble_eq_true rfl) rfl rfl dX3_copyFrom_60 (fun H locs hP hS => ?_)
  refine lv_aload_n hx hb dX3_copyFrom_63 rfl (lv_at hl 0 rfl) ?_
  refine lv_aload_n hx hb dX3_copyFrom_64 rfl (lv_at hl 1 rfl) ?_
  refine kget X hP (oR (by first | assumption | omega) (by first | assumption | omega)) g_X3_34 rfl dX3_copyFrom_65 ?_
  refine kput X hI hP hS (oR (by first | assumption | omega) (by first | assumption | omega)) g_X3_34 (fun _ => rfl) rfl (fun _ => Nat.le_of_ble_eq_true rfl) rfl rfl dX3_copyFrom_68 (fun H locs hP hS => ?_)
  refine lv_aload_n hx hb dX3_copyFrom_71 rfl (lv_at hl 0 rfl) ?_
  refine lv_aload_n hx hb dX3_copyFrom_72 rfl (lv_at hl 1 rfl) ?_
  refine kget X hP (oR (by first | assumption | omega) (by first | assumption | omega)) g_X3_37 rfl dX3_copyFrom_73 ?_
  have hz2 : ∀ q : Int32, q = G (rN j2 r2) 8 → narrow (tyX3 8) (.int q) = .int q ∧ fits (tyX3 8) (.int q) = true := fun q hq => by rcases hz with h | h <;> rw [hq, h] <;> exact ⟨rfl, rfl⟩
  refine kput X hI hP hS (oR (by first | assumption | omega) (by first | assumption | omega)) g_X3_37 (fun _ => rfl) rfl (fun _ => Nat.le_of_ble_eq_true rfl) (hz2 _ (by simp [gs, gc, z0])).1 (hz2 _ (by simp [gs, gc, z0])).2 dX3_copyFrom_76 (fun H locs hP hS => ?_)
  exact hret _ _ _ _ _ (by
      refine ⟨fun k h1 h2 => ?_, fun p hp => ?_, fun f h1 h2 => ?_⟩
      · funext f; simp [gs, gc, h1, h2]
      · simp [gs, gc, cpy, z1, hp]
      · rcases (show f = 1 ∨ f = 2 ∨ f = 3 ∨ f = 4 ∨ f = 5 ∨ f = 6 ∨ f = 7 ∨ f = 8 by omega) with h | h | h | h | h | h | h | h <;> subst h <;> simp [gs, gc, z0]) hP hS dX3_copyFrom_79

set_option maxHeartbeats 4000000 in
set_option maxRecDepth 100000 in
theorem c_X1_copyFrom (l : Launch) {D : va_G} {τ : Nat → ClassId} {ad : Nat → Nat} (hI : kInj ad) {G : Nat → Nat → Int32} {j q j2 q2 : Nat} (hj : j < 7) (hq : q < 40) (hj2 : j2 < 7) (hq2 : q2 < 40) : kMv l yX1_copyFrom cX1_copyFrom 2 { frames := 0, cells := 0, slots := 0, locals := 0 } D τ ad [.ref (ad (mC j q)), .ref (ad (mC j2 q2))] G (fun G' => (∀ k, k ≠ mC j q → G' k = G k) ∧ ∀ f, f < 6 → G' (mC j q) f = G (mC j2 q2) f) := by
  refine kMetV (own := RX1) (by decide) rfl (Nat.le_of_ble_eq_true rfl) ?_
  intro p9 e9 s9 m9 args9 below9 meth9 c9 Q9 X hx hb hP hS hret ls hl
  have hPs := hP
  have hl : lv_has ls 2 [(0, .ref (ad (mC j q))), (1, .ref (ad (mC j2 q2)))] := hl
  refine lv_aload_n hx hb dX1_copyFrom_0 rfl (lv_at hl 0 rfl) ?_
  refine lv_aload_n hx hb dX1_copyFrom_1 rfl (lv_at hl 1 rfl) ?_
  refine kget X hP (oM (by first | assumption | omega) (by first | assumption | omega)) g_X1_7 rfl dX1_copyFrom_2 ?_
  refine kput X hI hP hS (oM (by first | assumption | omega) (by first | assumption | omega)) g_X1_7 (fun _ => rfl) rfl (fun _ => Nat.le_of_ble_eq_true rfl) rfl rfl dX1_copyFrom_5 (fun H locs hP hS => ?_)
  refine lv_aload_n hx hb dX1_copyFrom_8 rfl (lv_at hl 0 rfl) ?_
  refine lv_aload_n hx hb dX1_copyFrom_9 rfl (lv_at hl 1 rfl) ?_
  refine kget X hP (oM (by first | assumption | omega) (by first | assumption | omega)) g_X1_13 rfl dX1_copyFrom_10 ?_
  refine kput X hI hP hS (oM (by first | assumption | omega) (by first | assumption | omega)) g_X1_13 (fun _ => rfl) rfl (fun _ => Nat.le_of_ble_eq_true rfl) rfl rfl dX1_copyFrom_13 (fun H locs hP hS => ?_)
  refine lv_aload_n hx hb dX1_copyFrom_16 rfl (lv_at hl 0 rfl) ?_
  refine lv_aload_n hx hb dX1_copyFrom_17 rfl (lv_at hl 1 rfl) ?_
  refine kget X hP (oM (by first | assumption | omega) (by first | assumption | omega)) g_X1_16 rfl dX1_copyFrom_18 ?_
  refine kput X hI hP hS (oM (by first | assumption | omega) (by first | assumption | omega)) g_X1_16 (fun _ => rfl) rfl (fun _ => Nat.le_of_ble_eq_true rfl) rfl rfl dX1_copyFrom_21 (fun H locs hP hS => ?_)
  refine lv_aload_n hx hb dX1_copyFrom_24 rfl (lv_at hl 0 rfl) ?_
  refine lv_aload_n hx hb dX1_copyFrom_25 rfl (lv_at hl 1 rfl) ?_
  refine kget X hP (oM (by first | assumption | omega) (by first | assumption | omega)) g_X1_19 rfl dX1_copyFrom_26 ?_
  refine kput X hI hP hS (oM (by first | assumption | omega) (by first | assumption | omega)) g_X1_19 (fun _ => rfl) rfl (fun _ => Nat.le_of_ble_eq_true rfl) rfl rfl dX1_copyFrom_29 (fun H locs hP hS => ?_)
  refine lv_aload_n hx hb dX1_copyFrom_32 rfl (lv_at hl 0 rfl) ?_
  refine lv_aload_n hx hb dX1_copyFrom_33 rfl (lv_at hl 1 rfl) ?_
  refine kget X hP (oM (by first | assumption | omega) (by first | assumption | omega)) g_X1_22 rfl dX1_copyFrom_34 ?_
  refine kput X hI hP hS (oM (by first | assumption | omega) (by first | assumption | omega)) g_X1_22 (fun _ => rfl) rfl (fun _ => Nat.le_of_ble_eq_true rfl) rfl rfl dX1_copyFrom_37 (fun H locs hP hS => ?_)
  refine lv_aload_n hx hb dX1_copyFrom_40 rfl (lv_at hl 0 rfl) ?_
  refine lv_aload_n hx hb dX1_copyFrom_41 rfl (lv_at hl 1 rfl) ?_
  refine kget X hP (oM (by first | assumption | omega) (by first | assumption | omega)) g_X1_25 rfl dX1_copyFrom_42 ?_
  refine kput X hI hP hS (oM (by first | assumption | omega) (by first | assumption | omega)) g_X1_25 (fun _ => rfl) rfl (fun _ => Nat.le_of_ble_eq_true rfl) rfl rfl dX1_copyFrom_45 (fun H locs hP hS => ?_)
  exact hret _ _ _ _ _ (by
      refine ⟨fun k h1 => ?_, fun f h2 => ?_⟩
      · funext f; simp [gs, h1]
      · rcases (show f = 0 ∨ f = 1 ∨ f = 2 ∨ f = 3 ∨ f = 4 ∨ f = 5 by omega) with h | h | h | h | h | h <;> subst h <;> simp [gs]) hP hS dX1_copyFrom_48

set_option maxHeartbeats 4000000 in
set_option maxRecDepth 100000 in
theorem c_X4_addReader (l : Launch) {D : va_G} {τ : Nat → ClassId} {ad : Nat → Nat} (hI : kInj ad) {G : Nat → Nat → Int32} {j n : Nat} {x : Int32} (hj : j < 7) (hn : G (sB j) 6 = nI n) (hn4 : n < 40) : kM l yX4_addReader cX4_addReader 3 (some .int) { frames := 1, cells := 0, slots := 0, locals := 22 } D τ ad [.ref (ad (sB j)), .int x] G (fun v G' => v = nI n ∧ G' = gs (gs (gs (gs (gs (gs (gs (gs (gs G (rN j n) 1 0) (rN j n) 2 (G (sB j) 3)) (rN j n) 3 x) (rN j n) 4 0) (rN j n) 5 0) (rN j n) 6 0) (rN j n) 7 0) (rN j n) 8 0) (sB j) 6 (nI (n + 1))) := by
  refine kMet (own := RX4) (by decide) rfl (Nat.le_of_ble_eq_true rfl) ?_
  intro p9 e9 s9 m9 args9 below9 meth9 c9 Q9 X hx hb hP hS hret ls hl
  have hPs := hP
  have hl : lv_has ls 3 [(0, .ref (ad (sB j))), (1, .int x)] := hl
  have z0 : sB j ≠ rN j n := by unfold sB rN; omega
  refine lv_aload_n hx hb dX4_addReader_0 rfl (lv_at hl 0 rfl) ?_
  refine kget X hP (oS (by first | assumption | omega)) g_X4_44 (congrArg (fun z => some (Value.int z)) hn) dX4_addReader_1 ?_
  refine kist hx hb dX4_addReader_4 rfl hl (by decide) (kp_2_2 rfl) (fun ls hl => ?_)
  refine lv_aload_n hx hb dX4_addReader_5 rfl (lv_at hl 0 rfl) ?_
  refine kget X hP (oS (by first | assumption | omega)) g_X4_19 rfl dX4_addReader_6 ?_
  refine lv_iload_n hx hb dX4_addReader_9 rfl (lv_at hl 2 rfl) ?_
  refine kaald X hP (qR (by first | assumption | omega)) (by first | assumption | omega) rfl dX4_addReader_10 ?_
  refine lv_aload_n hx hb dX4_addReader_11 rfl (lv_at hl 0 rfl) ?_
  refine kget X hP (oS (by first | assumption | omega)) g_X4_56 rfl dX4_addReader_12 ?_
  refine lv_iload_n hx hb dX4_addReader_15 rfl (lv_at hl 1 rfl) ?_
  refine kcVv X hP hS (c_X3_begin l hI hj (by omega)) (oR (by first | assumption | omega) (by first | assumption | omega)) v_X4_69 ⟨Nat.le_of_ble_eq_true rfl, Nat.le_of_ble_eq_true rfl, rfl, rfl⟩ rfl rfl (Nat.le_of_ble_eq_true rfl) hl.1 ⟨Nat.zero_le _, Nat.zero_le _⟩ dX4_addReader_16 (fun G_16 H locs hR hP hS => ?_)
  subst hR
  refine lv_aload_n hx hb dX4_addReader_19 rfl (lv_at hl 0 rfl) ?_
  refine lv_dup hx hb dX4_addReader_20 rfl ?_
  have hn2 : (gs (gs (gs (gs (gs (gs (gs (gs G (rN j n) 1 0) (rN j n) 2 (G (sB j) 3)) (rN j n) 3 x) (rN j n) 4 0) (rN j n) 5 0) (rN j n) 6 0) (rN j n) 7 0) (rN j n) 8 0) (sB j) 6 = nI n := by simp [gs, z0, hn]
  refine kget X hP (oS (by first | assumption | omega)) g_X4_44 (congrArg (fun z => some (Value.int z)) hn2) dX4_addReader_21 ?_
  refine lv_iconst (v := nI 1) hx hb dX4_addReader_24 (by decide) ?_
  first
    | refine kadd hx hb dX4_addReader_25 (by with_reducible rfl) (by with_reducible rfl) ?_
    | refine lv_iadd hx hb dX4_addReader_25 ?_
  refine kput X hI hP hS (oS (by first | assumption | omega)) g_X4_44 (fun _ => rfl) rfl (fun _ => Nat.le_of_ble_eq_true rfl) rfl rfl dX4_addReader_26 (fun H locs hP hS => ?_)
  refine lv_iload_n hx hb dX4_addReader_29 rfl (lv_at hl 2 rfl) ?_
  exact hret _ _ _ _ _ _ (⟨rfl, rfl⟩) hP hS dX4_addReader_30

set_option maxHeartbeats 4000000 in
set_option maxRecDepth 100000 in
theorem c_X4_tellDues (l : Launch) {D : va_G} {τ : Nat → ClassId} {ad : Nat → Nat} (hI : kInj ad) {G : Nat → Nat → Int32} {j n : Nat} {P : Nat → Nat} (hj : j < 7) (hn : G (sB j) 6 = nI n) (hn4 : n ≤ 40) (hp : ∀ c, c < 12 → G (cB j c) 2 = nI (P c) ∧ P c ≤ 10) : kMv l yX4_tellDues cX4_tellDues 2 { frames := 4, cells := 0, slots := 0, locals := 93 } D τ ad [.ref (ad (sB j))] G (fun G' => (∀ k, k ≠ sD j → G' k = G k) ∧ ∀ t, t < n → G' (sD j) t = dueF G j n P t) := by
  refine kMetV (own := RX4) (by decide) rfl (Nat.le_of_ble_eq_true rfl) ?_
  intro p9 e9 s9 m9 args9 below9 meth9 c9 Q9 X hx hb hP hS hret ls hl
  have hPs := hP
  have hl : lv_has ls 2 [(0, .ref (ad (sB j)))] := hl
  have zS : sB j ≠ sD j := by unfold sB sD; omega
  refine lv_iconst (v := nI 0) hx hb dX4_tellDues_0 (by decide) ?_
  refine kist hx hb dX4_tellDues_1 rfl hl (by decide) (kp_1_1 rfl) (fun ls hl => ?_)
  have lp_2 : ∀ (d : Nat) (i : Nat) (G1 : Nat → Nat → Int32) (H : Heap) (locs : List Loc) (ls : Array Slot), (n - i) < d → (i ≤ n) → (∀ k, k ≠ sD j → G1 k = G k) → (∀ t, t < i → G1 (sD j) t = dueF G j n P t) → va_P D vwCl (kW τ ad G1) H → va_S (kAd ad) s9.heap H locs → lv_has ls 2 [(0, .ref (ad (sB j))), (1, .int (nI i))] → W p9 l e9 { frames := 4, cells := 0, slots := 0, locals := 93 } s9 m9 args9 below9 meth9 c9 H locs 0 0 Q9 (F0 m9 2 ls []) := by
    intro d
    induction d with
    | zero => exact fun _ _ _ _ _ hd => absurd hd (Nat.not_lt_zero _)
    | succ d ih_2 =>
      intro i G1 H locs ls hd iv_0 iv_1 iv_2 hP hS hl
      refine lv_iload_n hx hb dX4_tellDues_2 rfl (lv_at hl 1 rfl) ?_
      refine lv_aload_n hx hb dX4_tellDues_3 rfl (lv_at hl 0 rfl) ?_
      refine kget X hP (oS (by first | assumption | omega)) g_X4_44 (congrArg (fun z => some (Value.int z)) (show G1 (sB j) 6 = nI n from by rw [iv_1 _ zS]; exact hn)) dX4_tellDues_4 ?_
      first
        | refine kic_ge (tgt := 32) hx hb dX4_tellDues_7 (by decide) (by with_reducible rfl) (by with_reducible rfl) (by omega) (by omega) (fun c_7 => ?_) (fun c_7 => ?_)
        | refine lv_icmp_ge (tgt := 32) hx hb dX4_tellDues_7 (by decide) (fun c_7 => ?_) (fun c_7 => ?_)
      · skip
        exact hret _ _ _ _ _ (⟨iv_1, fun t ht => iv_2 t (by omega)⟩) hP hS dX4_tellDues_32
      · skip
        refine lv_aload_n hx hb dX4_tellDues_10 rfl (lv_at hl 0 rfl) ?_
        refine kget X hP (oS (by first | assumption | omega)) g_X4_33 rfl dX4_tellDues_11 ?_
        refine lv_iload_n hx hb dX4_tellDues_14 rfl (lv_at hl 1 rfl) ?_
        refine lv_aload_n hx hb dX4_tellDues_15 rfl (lv_at hl 0 rfl) ?_
        refine lv_aload_n hx hb dX4_tellDues_16 rfl (lv_at hl 0 rfl) ?_
        refine kget X hP (oS (by first | assumption | omega)) g_X4_19 rfl dX4_tellDues_17 ?_
        refine lv_iload_n hx hb dX4_tellDues_20 rfl (lv_at hl 1 rfl) ?_
        refine kaald X hP (qR (by first | assumption | omega)) (by first | assumption | omega) rfl dX4_tellDues_21 ?_
        refine kcV X hP hS (c_X4_dueOf l hI (P := P) hj (by rw [iv_1 _ zS]; exact hn) hn4 (by omega) (fun c hc => by rw [iv_1 _ (by unfold cB sD; omega)]; exact hp c hc)) (oS (by first | assumption | omega)) v_X4_117 ⟨Nat.le_of_ble_eq_true rfl, Nat.le_of_ble_eq_true rfl, rfl, rfl⟩ rfl rfl (Nat.le_of_ble_eq_true rfl) hl.1 ⟨Nat.zero_le _, Nat.zero_le _⟩ dX4_tellDues_22 (fun r_22 G_22 H locs hR hP hS => ?_)
        obtain ⟨rfl, hG_22⟩ := hR
        rw [hG_22] at hP
        clear hG_22
        rw [dueF_congr (G' := G1) (G := G) (fun k h => iv_1 k h) (by omega)]
        refine kiast X hI hP hS (aD (by first | assumption | omega)) (by first | assumption | omega) dX4_tellDues_25 (fun H locs hP hS => ?_)
        first
          | refine kinc (q := 1) hx hb dX4_tellDues_26 hl rfl (by decide) (kp_2_1 rfl) (fun ls hl => ?_)
          | refine kincG (q := 1) hx hb dX4_tellDues_26 hl rfl (by decide) (kp_2_1 rfl) (fun ls hl => ?_)
        refine lv_goto (tgt := 2) hx hb dX4_tellDues_29 (by decide) ?_
        exact ih_2 _ _ _ _ _ (by omega) (by omega) (fun k h => by rw [gs_other h]; exact iv_1 k h) (fun t ht => by
                by_cases e : t = i
                · subst e; simp [gs]
                · simp [gs, e]; exact iv_2 t (by omega)) hP hS (lv_sub hl [0,1] rfl)
  exact lp_2 _ 0 G _ _ _ (Nat.lt_succ_self _) (Nat.zero_le _) (fun _ _ => rfl) (fun t h => absurd h (by omega)) hP hS (lv_sub hl [0,1] rfl)
end
section

def fl (f : Nat → Nat) (i : Nat) : Int32 := if cn f i ≠ 0 then 1 else 0
theorem fl_z {f : Nat → Nat} {i : Nat} {x : Int32} (h : x = fl f i) (hz : f i = 0) : x = fl f (i + 1) := by rw [h, fl, fl, cn, hz]; rfl
theorem fl_p {f : Nat → Nat} {i : Nat} (hz : f i = 1) : nI 1 = fl f (i + 1) := by rw [fl, cn, hz, if_pos (by omega)]; rfl
theorem fl_k {f : Nat → Nat} {i : Nat} {x : Int32} (h : x = fl f i) (hz : ¬ x = 0) : nI 1 = fl f (i + 1) := by
  rw [fl, cn, if_pos]
  · rfl
  · intro q
    exact hz (by rw [h, fl, if_neg (fun z => z (by omega))])
theorem fl_o {f : Nat → Nat} {i : Nat} {x : Int32} (h : x = fl f i) (hx : x = 0) (hz : f i = 0) : nI 0 = fl f (i + 1) := by rw [← fl_z h hz, hx]; rfl
theorem fl_01 (f : Nat → Nat) (i : Nat) : fl f i = 0 ∨ fl f i = 1 := by
  unfold fl
  split
  · exact Or.inr rfl
  · exact Or.inl rfl
/-- a reader's row, behind its payment -/
def tdR (row : Nat → Int32) (d : Int32) : Nat → Int32 := if row 1 = 0 ∧ row 6 = 0 then (if d ≤ row 3 then upd (upd row 3 (row 3 - d)) 7 (row 7 + d) else upd row 1 3) else row
def evR (row : Nat → Int32) (d : Int32) : Prop := (row 1 = 0 ∧ row 6 = 0) ∧ ¬ d ≤ row 3
def evN (G : Nat → Nat → Int32) (j : Nat) : Nat → Nat := fun r => if (G (rN j r) 1 = 0 ∧ G (rN j r) 6 = 0) ∧ ¬ G (sD j) r ≤ G (rN j r) 3 then 1 else 0
def stR (row : Nat → Int32) : Nat → Int32 := if row 1 = 0 ∧ 0 < row 6 then upd row 6 (row 6 - nI 1) else row
def teN (G : Nat → Nat → Int32) (j : Nat) : Nat → Nat := fun r => if (G (rN j r) 1 = 0 ∧ 0 < G (rN j r) 6) ∧ G (rN j r) 6 - nI 1 = 0 then 1 else 0
theorem rN_ne {j r i : Nat} (h : r ≠ i) : rN j r ≠ rN j i := by unfold rN; omega
theorem rows_s {G1 G2 : Nat → Nat → Int32} {j i : Nat} {F : Nat → Nat → Int32} (h : ∀ r, r < i → G1 (rN j r) = F r) (h2 : ∀ k, k ≠ rN j i → G2 k = G1 k) (hi : G2 (rN j i) = F i) : ∀ r, r < i + 1 → G2 (rN j r) = F r := fun r hr => by
  rcases Nat.lt_or_ge r i with q | q
  · rw [h2 _ (rN_ne (by omega))]; exact h r q
  · rw [show r = i by omega]; exact hi
theorem rows_f {G G1 G2 : Nat → Nat → Int32} {j i : Nat} (h : ∀ k, (∀ r, r < i → k ≠ rN j r) → G1 k = G k) (h2 : ∀ k, k ≠ rN j i → G2 k = G1 k) : ∀ k, (∀ r, r < i + 1 → k ≠ rN j r) → G2 k = G k := fun k hk => by
  rw [h2 k (hk i (by omega))]; exact h k (fun r hr => hk r (by omega))
theorem gs2_o {G : Nat → Nat → Int32} {k f g : Nat} {x y : Int32} : ∀ q, q ≠ k → gs (gs G k f x) k g y q = G q := fun q h => by rw [gs_other h, gs_other h]
theorem gs1_o {G : Nat → Nat → Int32} {k f : Nat} {x : Int32} : ∀ q, q ≠ k → gs G k f x q = G q := fun q h => gs_other h
theorem td_pay {G1 : Nat → Nat → Int32} {K S i : Nat} (h : S ≠ K) (h1 : G1 K 1 = 0 ∧ G1 K 6 = 0) (h2 : G1 S i ≤ G1 K 3) : gs (gs G1 K 3 (G1 K 3 - G1 S i)) K 7 (gs G1 K 3 (G1 K 3 - G1 S i) K 7 + gs G1 K 3 (G1 K 3 - G1 S i) S i) K = tdR (G1 K) (G1 S i) := by
  rw [gs_up, gs_up, gs_other h, tdR, if_pos h1, if_pos h2]
  simp [upd]
theorem td_ev {G1 : Nat → Nat → Int32} {K : Nat} {d : Int32} (h1 : G1 K 1 = 0 ∧ G1 K 6 = 0) (h2 : ¬ d ≤ G1 K 3) : gs G1 K 1 (nI 3) K = tdR (G1 K) d := by
  rw [gs_up, tdR, if_pos h1, if_neg h2]
  rfl
set_option maxHeartbeats 4000000 in
set_option maxRecDepth 100000 in
theorem c_X4_takeDues (l : Launch) {D : va_G} {τ : Nat → ClassId} {ad : Nat → Nat} (hI : kInj ad) {G : Nat → Nat → Int32} {j n : Nat} (hj : j < 7) (hn : G (sB j) 6 = nI n) (hn4 : n ≤ 40) : kM l yX4_takeDues cX4_takeDues 4 (some .boolean) { frames := 1, cells := 0, slots := 0, locals := 20 } D τ ad [.ref (ad (sB j))] G (fun v G' => v = fl (evN G j) n ∧ (∀ k, (∀ r, r < n → k ≠ rN j r) → G' k = G k) ∧ ∀ r, r < n → G' (rN j r) = tdR (G (rN j r)) (G (sD j) r)) := by
  refine kMetZ (own := RX4) (by decide) rfl (Nat.le_of_ble_eq_true rfl) ?_
  intro p9 e9 s9 m9 args9 below9 meth9 c9 Q9 X hx hb hP hS hret ls hl
  have hPs := hP
  have hl : lv_has ls 4 [(0, .ref (ad (sB j)))] := hl
  refine lv_iconst (v := nI 0) hx hb dX4_takeDues_0 (by decide) ?_
  refine kist hx hb dX4_takeDues_1 rfl hl (by decide) (kp_1_1 rfl) (fun ls hl => ?_)
  refine lv_iconst (v := nI 0) hx hb dX4_takeDues_2 (by decide) ?_
  refine kist hx hb dX4_takeDues_3 rfl hl (by decide) (kp_2_2 rfl) (fun ls hl => ?_)
  have lp_4 : ∀ (d : Nat) (x : Int32) (i : Nat) (G1 : Nat → Nat → Int32) (H : Heap) (locs : List Loc) (ls : Array Slot), (n - i) < d → (i ≤ n) → (∀ k, (∀ r, r < i → k ≠ rN j r) → G1 k = G k) → (∀ r, r < i → G1 (rN j r) = tdR (G (rN j r)) (G (sD j) r)) → (x = fl (evN G j) i) → va_P D vwCl (kW τ ad G1) H → va_S (kAd ad) s9.heap H locs → lv_has ls 4 [(0, .ref (ad (sB j))), (1, .int x), (2, .int (nI i))] → W p9 l e9 { frames := 1, cells := 0, slots := 0, locals := 20 } s9 m9 args9 below9 meth9 c9 H locs 0 0 Q9 (F0 m9 4 ls []) := by
    intro d
    induction d with
    | zero => exact fun _ _ _ _ _ _ hd => absurd hd (Nat.not_lt_zero _)
    | succ d ih_4 =>
      intro x i G1 H locs ls hd iv_0 iv_1 iv_2 iv_3 hP hS hl
      have e1 : G1 (rN j i) = G (rN j i) := iv_1 _ (fun r hr => rN_ne (by omega))
      have e2 : G1 (sD j) = G (sD j) := iv_1 _ (fun r hr => by unfold sD rN; omega)
      have e3 : G1 (sB j) = G (sB j) := iv_1 _ (fun r hr => by unfold sB rN; omega)
      have hn1 : G1 (sB j) 6 = nI n := by rw [e3]; exact hn
      have z0 : sD j ≠ rN j i := by unfold sD rN; omega
      refine lv_iload_n hx hb dX4_takeDues_4 rfl (lv_at hl 2 rfl) ?_
      refine lv_aload_n hx hb dX4_takeDues_5 rfl (lv_at hl 0 rfl) ?_
      refine kget X hP (oS (by first | assumption | omega)) g_X4_44 (congrArg (fun z => some (Value.int z)) hn1) dX4_takeDues_6 ?_
      first
        | refine kic_ge (tgt := 85) hx hb dX4_takeDues_9 (by decide) (by with_reducible rfl) (by with_reducible rfl) (by omega) (by omega) (fun c_9 => ?_) (fun c_9 => ?_)
        | refine lv_icmp_ge (tgt := 85) hx hb dX4_takeDues_9 (by decide) (fun c_9 => ?_) (fun c_9 => ?_)
      · skip
        refine lv_iload_n hx hb dX4_takeDues_85 rfl (lv_at hl 1 rfl) ?_
        exact hret _ _ _ _ _ _ (by rw [iv_3]; exact fl_01 _ _) (by have ei : i = n := (by omega); rw [ei] at iv_1 iv_2 iv_3; exact ⟨iv_3, iv_1, iv_2⟩) hP hS dX4_takeDues_86
      · skip
        refine lv_aload_n hx hb dX4_takeDues_12 rfl (lv_at hl 0 rfl) ?_
        refine kget X hP (oS (by first | assumption | omega)) g_X4_19 rfl dX4_takeDues_13 ?_
        refine lv_iload_n hx hb dX4_takeDues_16 rfl (lv_at hl 2 rfl) ?_
        refine kaald X hP (qR (by first | assumption | omega)) (by first | assumption | omega) rfl dX4_takeDues_17 ?_
        refine kast hx hb dX4_takeDues_18 rfl hl (by decide) (kp_3_3 rfl) (fun ls hl => ?_)
        refine lv_aload_n hx hb dX4_takeDues_19 rfl (lv_at hl 3 rfl) ?_
        refine kcV X hP hS (c_X3_paysRent l hI (by first | assumption | omega) (by first | assumption | omega)) (oR (by first | assumption | omega) (by first | assumption | omega)) v_X4_95 ⟨Nat.le_of_ble_eq_true rfl, Nat.le_of_ble_eq_true rfl, rfl, rfl⟩ rfl rfl (Nat.le_of_ble_eq_true rfl) hl.1 ⟨Nat.zero_le _, Nat.zero_le _⟩ dX4_takeDues_20 (fun r_20 G_20 H locs hR hP hS => ?_)
        obtain ⟨rfl, hG_20⟩ := hR
        rw [hG_20] at hP
        clear hG_20
        first
          | refine kif_eq (tgt := 79) hx hb dX4_takeDues_23 (by decide) (fun c_23 => ?_) (fun c_23 => ?_)
          | refine lv_if_eq (tgt := 79) hx hb dX4_takeDues_23 (by decide) (fun c_23 => ?_) (fun c_23 => ?_)
        · skip
          first
            | refine kinc (q := 2) hx hb dX4_takeDues_79 hl rfl (by decide) (kp_4_2 rfl) (fun ls hl => ?_)
            | refine kincG (q := 2) hx hb dX4_takeDues_79 hl rfl (by decide) (kp_4_2 rfl) (fun ls hl => ?_)
          refine lv_goto (tgt := 4) hx hb dX4_takeDues_82 (by decide) ?_
          exact ih_4 _ _ _ _ _ _ (by omega) (by omega) (fun k hk => iv_1 k (fun r hr => hk r (by omega))) (rows_s iv_2 (fun _ _ => rfl) (by rw [e1, tdR, if_neg (by rw [← e1]; exact c_23)])) (fl_z iv_3 (if_neg (fun z => c_23 (by rw [e1]; exact z.1)))) hP hS (lv_sub hl [0,1,2] rfl)
        · skip
          refine lv_aload_n hx hb dX4_takeDues_26 rfl (lv_at hl 3 rfl) ?_
          refine kget X hP (oR (by first | assumption | omega) (by first | assumption | omega)) g_X4_137 rfl dX4_takeDues_27 ?_
          refine lv_aload_n hx hb dX4_takeDues_30 rfl (lv_at hl 0 rfl) ?_
          refine kget X hP (oS (by first | assumption | omega)) g_X4_33 rfl dX4_takeDues_31 ?_
          refine lv_iload_n hx hb dX4_takeDues_34 rfl (lv_at hl 2 rfl) ?_
          refine kiald X hP (aD (by first | assumption | omega)) (by first | assumption | omega) dX4_takeDues_35 ?_
          first
            | refine kic_lt (tgt := 72) hx hb dX4_takeDues_36 (by decide) (by with_reducible rfl) (by with_reducible rfl) (by omega) (by omega) (fun c_36 => ?_) (fun c_36 => ?_)
            | refine lv_icmp_lt (tgt := 72) hx hb dX4_takeDues_36 (by decide) (fun c_36 => ?_) (fun c_36 => ?_)
          · skip
            refine lv_aload_n hx hb dX4_takeDues_72 rfl (lv_at hl 3 rfl) ?_
            refine lv_iconst (v := nI 3) hx hb dX4_takeDues_73 (by decide) ?_
            refine kput X hI hP hS (oR (by first | assumption | omega) (by first | assumption | omega)) g_X4_73 (fun _ => rfl) rfl (fun _ => Nat.le_of_ble_eq_true rfl) rfl rfl dX4_takeDues_74 (fun H locs hP hS => ?_)
            refine lv_iconst (v := nI 1) hx hb dX4_takeDues_77 (by decide) ?_
            refine kist hx hb dX4_takeDues_78 rfl hl (by decide) (kp_4_1 rfl) (fun ls hl => ?_)
            first
              | refine kinc (q := 2) hx hb dX4_takeDues_79 hl rfl (by decide) (kp_4_2 rfl) (fun ls hl => ?_)
              | refine kincG (q := 2) hx hb dX4_takeDues_79 hl rfl (by decide) (kp_4_2 rfl) (fun ls hl => ?_)
            refine lv_goto (tgt := 4) hx hb dX4_takeDues_82 (by decide) ?_
            exact ih_4 _ _ _ _ _ _ (by omega) (by omega) (rows_f iv_1 (by first | exact gs2_o | exact gs1_o)) (rows_s iv_2 gs1_o ((td_ev c_23 (Int32.not_le.mpr c_36)).trans (by rw [e1, e2]))) (fl_p (if_pos (by rw [← e1, ← e2]; exact ⟨c_23, Int32.not_le.mpr c_36⟩))) hP hS (lv_sub hl [0,1,2] rfl)
          · skip
            refine lv_aload_n hx hb dX4_takeDues_39 rfl (lv_at hl 3 rfl) ?_
            refine lv_dup hx hb dX4_takeDues_40 rfl ?_
            refine kget X hP (oR (by first | assumption | omega) (by first | assumption | omega)) g_X4_137 rfl dX4_takeDues_41 ?_
            refine lv_aload_n hx hb dX4_takeDues_44 rfl (lv_at hl 0 rfl) ?_
            refine kget X hP (oS (by first | assumption | omega)) g_X4_33 rfl dX4_takeDues_45 ?_
            refine lv_iload_n hx hb dX4_takeDues_48 rfl (lv_at hl 2 rfl) ?_
            refine kiald X hP (aD (by first | assumption | omega)) (by first | assumption | omega) dX4_takeDues_49 ?_
            first
              | refine ksub hx hb dX4_takeDues_50 (by with_reducible rfl) (by with_reducible rfl) (by omega) ?_
              | refine lv_isub hx hb dX4_takeDues_50 ?_
            refine kput X hI hP hS (oR (by first | assumption | omega) (by first | assumption | omega)) g_X4_137 (fun _ => rfl) rfl (fun _ => Nat.le_of_ble_eq_true rfl) rfl rfl dX4_takeDues_51 (fun H locs hP hS => ?_)
            refine lv_aload_n hx hb dX4_takeDues_54 rfl (lv_at hl 3 rfl) ?_
            refine lv_dup hx hb dX4_takeDues_55 rfl ?_
            refine kget X hP (oR (by first | assumption | omega) (by first | assumption | omega)) g_X4_80 rfl dX4_takeDues_56 ?_
            refine lv_aload_n hx hb dX4_takeDues_59 rfl (lv_at hl 0 rfl) ?_
            refine kget X hP (oS (by first | assumption | omega)) g_X4_33 rfl dX4_takeDues_60 ?_
            refine lv_iload_n hx hb dX4_takeDues_63 rfl (lv_at hl 2 rfl) ?_
            refine kiald X hP (aD (by first | assumption | omega)) (by first | assumption | omega) dX4_takeDues_64 ?_
            first
              | refine kadd hx hb dX4_takeDues_65 (by with_reducible rfl) (by with_reducible rfl) ?_
              | refine lv_iadd hx hb dX4_takeDues_65 ?_
            refine kput X hI hP hS (oR (by first | assumption | omega) (by first | assumption | omega)) g_X4_80 (fun _ => rfl) rfl (fun _ => Nat.le_of_ble_eq_true rfl) rfl rfl dX4_takeDues_66 (fun H locs hP hS => ?_)
            refine lv_goto (tgt := 79) hx hb dX4_takeDues_69 (by decide) ?_
            first
              | refine kinc (q := 2) hx hb dX4_takeDues_79 hl rfl (by decide) (kp_4_2 rfl) (fun ls hl => ?_)
              | refine kincG (q := 2) hx hb dX4_takeDues_79 hl rfl (by decide) (kp_4_2 rfl) (fun ls hl => ?_)
            refine lv_goto (tgt := 4) hx hb dX4_takeDues_82 (by decide) ?_
            exact ih_4 _ _ _ _ _ _ (by omega) (by omega) (rows_f iv_1 (by first | exact gs2_o | exact gs1_o)) (rows_s iv_2 gs2_o ((td_pay z0 c_23 (Int32.not_lt.mp c_36)).trans (by rw [e1, e2]))) (fl_z iv_3 (if_neg (fun z => z.2 (by rw [← e1, ← e2]; exact Int32.not_lt.mp c_36)))) hP hS (lv_sub hl [0,1,2] rfl)
  exact lp_4 _ (nI 0) 0 G _ _ _ (Nat.lt_succ_self _) (Nat.zero_le _) (fun _ _ => rfl) (fun r h => absurd h (by omega)) (rfl) hP hS (lv_sub hl [0,1,2] rfl)

set_option maxHeartbeats 4000000 in
set_option maxRecDepth 100000 in
theorem c_X4_shortenTerms (l : Launch) {D : va_G} {τ : Nat → ClassId} {ad : Nat → Nat} (hI : kInj ad) {G : Nat → Nat → Int32} {j n : Nat} (hj : j < 7) (hn : G (sB j) 6 = nI n) (hn4 : n ≤ 40) : kM l yX4_shortenTerms cX4_shortenTerms 4 (some .boolean) { frames := 1, cells := 0, slots := 0, locals := 20 } D τ ad [.ref (ad (sB j))] G (fun v G' => v = fl (teN G j) n ∧ (∀ k, (∀ r, r < n → k ≠ rN j r) → G' k = G k) ∧ ∀ r, r < n → G' (rN j r) = stR (G (rN j r))) := by
  refine kMetZ (own := RX4) (by decide) rfl (Nat.le_of_ble_eq_true rfl) ?_
  intro p9 e9 s9 m9 args9 below9 meth9 c9 Q9 X hx hb hP hS hret ls hl
  have hPs := hP
  have hl : lv_has ls 4 [(0, .ref (ad (sB j)))] := hl
  refine lv_iconst (v := nI 0) hx hb dX4_shortenTerms_0 (by decide) ?_
  refine kist hx hb dX4_shortenTerms_1 rfl hl (by decide) (kp_1_1 rfl) (fun ls hl => ?_)
  refine lv_iconst (v := nI 0) hx hb dX4_shortenTerms_2 (by decide) ?_
  refine kist hx hb dX4_shortenTerms_3 rfl hl (by decide) (kp_2_2 rfl) (fun ls hl => ?_)
  have lp_4 : ∀ (d : Nat) (x : Int32) (i : Nat) (G1 : Nat → Nat → Int32) (H : Heap) (locs : List Loc) (ls : Array Slot), (n - i) < d → (i ≤ n) → (∀ k, (∀ r, r < i → k ≠ rN j r) → G1 k = G k) → (∀ r, r < i → G1 (rN j r) = stR (G (rN j r))) → (x = fl (teN G j) i) → va_P D vwCl (kW τ ad G1) H → va_S (kAd ad) s9.heap H locs → lv_has ls 4 [(0, .ref (ad (sB j))), (1, .int x), (2, .int (nI i))] → W p9 l e9 { frames := 1, cells := 0, slots := 0, locals := 20 } s9 m9 args9 below9 meth9 c9 H locs 0 0 Q9 (F0 m9 4 ls []) := by
    intro d
    induction d with
    | zero => exact fun _ _ _ _ _ _ hd => absurd hd (Nat.not_lt_zero _)
    | succ d ih_4 =>
      intro x i G1 H locs ls hd iv_0 iv_1 iv_2 iv_3 hP hS hl
      have e1 : G1 (rN j i) = G (rN j i) := iv_1 _ (fun r hr => rN_ne (by omega))
      have e2 : G1 (sD j) = G (sD j) := iv_1 _ (fun r hr => by unfold sD rN; omega)
      have e3 : G1 (sB j) = G (sB j) := iv_1 _ (fun r hr => by unfold sB rN; omega)
      have hn1 : G1 (sB j) 6 = nI n := by rw [e3]; exact hn
      have z0 : sD j ≠ rN j i := by unfold sD rN; omega
      refine lv_iload_n hx hb dX4_shortenTerms_4 rfl (lv_at hl 2 rfl) ?_
      refine lv_aload_n hx hb dX4_shortenTerms_5 rfl (lv_at hl 0 rfl) ?_
      refine kget X hP (oS (by first | assumption | omega)) g_X4_44 (congrArg (fun z => some (Value.int z)) hn1) dX4_shortenTerms_6 ?_
      first
        | refine kic_ge (tgt := 59) hx hb dX4_shortenTerms_9 (by decide) (by with_reducible rfl) (by with_reducible rfl) (by omega) (by omega) (fun c_9 => ?_) (fun c_9 => ?_)
        | refine lv_icmp_ge (tgt := 59) hx hb dX4_shortenTerms_9 (by decide) (fun c_9 => ?_) (fun c_9 => ?_)
      · skip
        refine lv_iload_n hx hb dX4_shortenTerms_59 rfl (lv_at hl 1 rfl) ?_
        exact hret _ _ _ _ _ _ (by rw [iv_3]; exact fl_01 _ _) (by have ei : i = n := (by omega); rw [ei] at iv_1 iv_2 iv_3; exact ⟨iv_3, iv_1, iv_2⟩) hP hS dX4_shortenTerms_60
      · skip
        refine lv_aload_n hx hb dX4_shortenTerms_12 rfl (lv_at hl 0 rfl) ?_
        refine kget X hP (oS (by first | assumption | omega)) g_X4_19 rfl dX4_shortenTerms_13 ?_
        refine lv_iload_n hx hb dX4_shortenTerms_16 rfl (lv_at hl 2 rfl) ?_
        refine kaald X hP (qR (by first | assumption | omega)) (by first | assumption | omega) rfl dX4_shortenTerms_17 ?_
        refine kast hx hb dX4_shortenTerms_18 rfl hl (by decide) (kp_3_3 rfl) (fun ls hl => ?_)
        refine lv_aload_n hx hb dX4_shortenTerms_19 rfl (lv_at hl 3 rfl) ?_
        refine kcV X hP hS (c_X3_isOpenWidow l hI (by first | assumption | omega) (by first | assumption | omega)) (oR (by first | assumption | omega) (by first | assumption | omega)) v_X4_76 ⟨Nat.le_of_ble_eq_true rfl, Nat.le_of_ble_eq_true rfl, rfl, rfl⟩ rfl rfl (Nat.le_of_ble_eq_true rfl) hl.1 ⟨Nat.zero_le _, Nat.zero_le _⟩ dX4_shortenTerms_20 (fun r_20 G_20 H locs hR hP hS => ?_)
        obtain ⟨rfl, hG_20⟩ := hR
        rw [hG_20] at hP
        clear hG_20
        first
          | refine kif_eq (tgt := 53) hx hb dX4_shortenTerms_23 (by decide) (fun c_23 => ?_) (fun c_23 => ?_)
          | refine lv_if_eq (tgt := 53) hx hb dX4_shortenTerms_23 (by decide) (fun c_23 => ?_) (fun c_23 => ?_)
        · skip
          first
            | refine kinc (q := 2) hx hb dX4_shortenTerms_53 hl rfl (by decide) (kp_4_2 rfl) (fun ls hl => ?_)
            | refine kincG (q := 2) hx hb dX4_shortenTerms_53 hl rfl (by decide) (kp_4_2 rfl) (fun ls hl => ?_)
          refine lv_goto (tgt := 4) hx hb dX4_shortenTerms_56 (by decide) ?_
          exact ih_4 _ _ _ _ _ _ (by omega) (by omega) (fun k hk => iv_1 k (fun r hr => hk r (by omega))) (rows_s iv_2 (fun _ _ => rfl) (by rw [e1, stR, if_neg (by rw [← e1]; exact c_23)])) (fl_z iv_3 (if_neg (fun z => c_23 (by rw [e1]; exact z.1)))) hP hS (lv_sub hl [0,1,2] rfl)
        · skip
          refine lv_aload_n hx hb dX4_shortenTerms_26 rfl (lv_at hl 3 rfl) ?_
          refine lv_dup hx hb dX4_shortenTerms_27 rfl ?_
          refine kget X hP (oR (by first | assumption | omega) (by first | assumption | omega)) g_X4_140 rfl dX4_shortenTerms_28 ?_
          refine lv_iconst (v := nI 1) hx hb dX4_shortenTerms_31 (by decide) ?_
          first
            | refine ksub hx hb dX4_shortenTerms_32 (by with_reducible rfl) (by with_reducible rfl) (by omega) ?_
            | refine lv_isub hx hb dX4_shortenTerms_32 ?_
          refine kput X hI hP hS (oR (by first | assumption | omega) (by first | assumption | omega)) g_X4_140 (fun _ => rfl) rfl (fun _ => Nat.le_of_ble_eq_true rfl) rfl rfl dX4_shortenTerms_33 (fun H locs hP hS => ?_)
          refine lv_iload_n hx hb dX4_shortenTerms_36 rfl (lv_at hl 1 rfl) ?_
          first
            | refine kif_ne (tgt := 47) hx hb dX4_shortenTerms_37 (by decide) (fun c_37 => ?_) (fun c_37 => ?_)
            | refine lv_if_ne (tgt := 47) hx hb dX4_shortenTerms_37 (by decide) (fun c_37 => ?_) (fun c_37 => ?_)
          · skip
            refine lv_iconst (v := nI 1) hx hb dX4_shortenTerms_47 (by decide) ?_
            refine lv_goto (tgt := 52) hx hb dX4_shortenTerms_48 (by decide) ?_
            refine kist hx hb dX4_shortenTerms_52 rfl hl (by decide) (kp_4_1 rfl) (fun ls hl => ?_)
            first
              | refine kinc (q := 2) hx hb dX4_shortenTerms_53 hl rfl (by decide) (kp_4_2 rfl) (fun ls hl => ?_)
              | refine kincG (q := 2) hx hb dX4_shortenTerms_53 hl rfl (by decide) (kp_4_2 rfl) (fun ls hl => ?_)
            refine lv_goto (tgt := 4) hx hb dX4_shortenTerms_56 (by decide) ?_
            exact ih_4 _ _ _ _ _ _ (by omega) (by omega) (rows_f iv_1 gs1_o) (rows_s iv_2 gs1_o (by rw [gs_up, stR, ← e1, if_pos c_23])) (fl_k iv_3 c_37) hP hS (lv_sub hl [0,1,2] rfl)
          · skip
            refine lv_aload_n hx hb dX4_shortenTerms_40 rfl (lv_at hl 3 rfl) ?_
            have e6 : gs G1 (rN j i) 6 (G1 (rN j i) 6 - nI 1) (rN j i) 6 = G1 (rN j i) 6 - nI 1 := by simp [gs]
            refine kget X hP (oR (by first | assumption | omega) (by first | assumption | omega)) g_X4_140 rfl dX4_shortenTerms_41 ?_
            rw [e6]
            first
              | refine kif_ne (tgt := 51) hx hb dX4_shortenTerms_44 (by decide) (fun c_44 => ?_) (fun c_44 => ?_)
              | refine lv_if_ne (tgt := 51) hx hb dX4_shortenTerms_44 (by decide) (fun c_44 => ?_) (fun c_44 => ?_)
            · skip
              refine lv_iconst (v := nI 0) hx hb dX4_shortenTerms_51 (by decide) ?_
              refine kist hx hb dX4_shortenTerms_52 rfl hl (by decide) (kp_4_1 rfl) (fun ls hl => ?_)
              first
                | refine kinc (q := 2) hx hb dX4_shortenTerms_53 hl rfl (by decide) (kp_4_2 rfl) (fun ls hl => ?_)
                | refine kincG (q := 2) hx hb dX4_shortenTerms_53 hl rfl (by decide) (kp_4_2 rfl) (fun ls hl => ?_)
              refine lv_goto (tgt := 4) hx hb dX4_shortenTerms_56 (by decide) ?_
              exact ih_4 _ _ _ _ _ _ (by omega) (by omega) (rows_f iv_1 gs1_o) (rows_s iv_2 gs1_o (by rw [gs_up, stR, ← e1, if_pos c_23])) (fl_o iv_3 c_37 (if_neg (fun z => c_44 (by rw [e1]; exact z.2)))) hP hS (lv_sub hl [0,1,2] rfl)
            · skip
              refine lv_iconst (v := nI 1) hx hb dX4_shortenTerms_47 (by decide) ?_
              refine lv_goto (tgt := 52) hx hb dX4_shortenTerms_48 (by decide) ?_
              refine kist hx hb dX4_shortenTerms_52 rfl hl (by decide) (kp_4_1 rfl) (fun ls hl => ?_)
              first
                | refine kinc (q := 2) hx hb dX4_shortenTerms_53 hl rfl (by decide) (kp_4_2 rfl) (fun ls hl => ?_)
                | refine kincG (q := 2) hx hb dX4_shortenTerms_53 hl rfl (by decide) (kp_4_2 rfl) (fun ls hl => ?_)
              refine lv_goto (tgt := 4) hx hb dX4_shortenTerms_56 (by decide) ?_
              exact ih_4 _ _ _ _ _ _ (by omega) (by omega) (rows_f iv_1 gs1_o) (rows_s iv_2 gs1_o (by rw [gs_up, stR, ← e1, if_pos c_23])) (fl_p (if_pos (by rw [← e1]; exact ⟨c_23, c_44⟩))) hP hS (lv_sub hl [0,1,2] rfl)
  exact lp_4 _ (nI 0) 0 G _ _ _ (Nat.lt_succ_self _) (Nat.zero_le _) (fun _ _ => rfl) (fun r h => absurd h (by omega)) (rfl) hP hS (lv_sub hl [0,1,2] rfl)

def snF (G : Nat → Nat → Int32) (j n : Nat) (P : Nat → Nat) (c : Nat) : Int32 := so (psB G j c (P c) (-1)) n
theorem psB_congr {G G' : Nat → Nat → Int32} {j c P : Nat} {q : Int32} (h1 : ∀ i, G' (rN j i) = G (rN j i)) (h2 : G' (cM j c) = G (cM j c)) : psB G' j c P q = psB G j c P q := by
  unfold psB
  simp only [h1, h2]
theorem RT_of {G G1 G2 : Nat → Nat → Int32} {j c P : Nat} {w : Int32} (h : RT G1 G2 j c P w) (h1 : G1 (cV j c) = G (cV j c)) (h2 : G1 (cM j c) = G (cM j c)) : RT G G2 j c P w := by
  obtain ⟨a, b, d, e⟩ := h
  refine ⟨a, by rw [b, h1], by rw [d, h2], fun p p1 p2 p3 => ?_⟩
  have := e p p1 p2 p3
  rw [h1, h2] at this
  exact this
theorem RT_to {G G1 G2 : Nat → Nat → Int32} {j c P : Nat} {w : Int32} (h : RT G G1 j c P w) (h0 : G2 (cB j c) = G1 (cB j c)) (h1 : G2 (cV j c) = G1 (cV j c)) (h2 : G2 (cM j c) = G1 (cM j c)) : RT G G2 j c P w := by
  unfold RT
  rw [h0, h1, h2]
  exact h
set_option maxHeartbeats 4000000 in
set_option maxRecDepth 100000 in
theorem c_X4_removeUnseen (l : Launch) {D : va_G} {τ : Nat → ClassId} {ad : Nat → Nat} (hI : kInj ad) {G : Nat → Nat → Int32} {j n : Nat} {P : Nat → Nat} (hj : j < 7) (hn : G (sB j) 6 = nI n) (hn4 : n ≤ 40) (hp : ∀ c, c < 12 → G (cB j c) 2 = nI (P c) ∧ 1 ≤ P c ∧ P c ≤ 10) : kM l yX4_removeUnseen cX4_removeUnseen 3 (some .int) { frames := 2, cells := 0, slots := 0, locals := 47 } D τ ad [.ref (ad (sB j))] G (fun v G' => v = nI (cn (fun c => P c - (1 + cn (rf (snF G j n P c)) (P c))) 12) ∧ (∀ c, c < 12 → RT G G' j c (P c) (snF G j n P c)) ∧ (∀ f, f ≠ 8 → G' (sB j) f = G (sB j) f) ∧ G' (sB j) 8 = G (sB j) 8 + v ∧ ∀ k, k ≠ sB j → (∀ c, c < 12 → k ≠ cB j c ∧ k ≠ cV j c ∧ k ≠ cM j c) → G' k = G k) := by
  refine kMet (own := RX4) (by decide) rfl (Nat.le_of_ble_eq_true rfl) ?_
  intro p9 e9 s9 m9 args9 below9 meth9 c9 Q9 X hx hb hP hS hret ls hl
  have hPs := hP
  have hl : lv_has ls 3 [(0, .ref (ad (sB j)))] := hl
  refine lv_iconst (v := nI 0) hx hb dX4_removeUnseen_0 (by decide) ?_
  refine kist hx hb dX4_removeUnseen_1 rfl hl (by decide) (kp_1_1 rfl) (fun ls hl => ?_)
  refine lv_iconst (v := nI 0) hx hb dX4_removeUnseen_2 (by decide) ?_
  refine kist hx hb dX4_removeUnseen_3 rfl hl (by decide) (kp_2_2 rfl) (fun ls hl => ?_)
  have lp_4 : ∀ (d : Nat) (x i : Nat) (G1 : Nat → Nat → Int32) (H : Heap) (locs : List Loc) (ls : Array Slot), (12 - i) < d → (i ≤ 12) → (x = cn (fun c => P c - (1 + cn (rf (snF G j n P c)) (P c))) i) → (∀ k, (∀ c, c < i → k ≠ cB j c ∧ k ≠ cV j c ∧ k ≠ cM j c) → G1 k = G k) → (∀ c, c < i → RT G G1 j c (P c) (snF G j n P c)) → va_P D vwCl (kW τ ad G1) H → va_S (kAd ad) s9.heap H locs → lv_has ls 3 [(0, .ref (ad (sB j))), (1, .int (nI x)), (2, .int (nI i))] → W p9 l e9 { frames := 2, cells := 0, slots := 0, locals := 47 } s9 m9 args9 below9 meth9 c9 H locs 0 0 Q9 (F0 m9 4 ls []) := by
    intro d
    induction d with
    | zero => exact fun _ _ _ _ _ _ hd => absurd hd (Nat.not_lt_zero _)
    | succ d ih_4 =>
      intro x i G1 H locs ls hd iv_0 iv_1 iv_2 iv_3 hP hS hl
      have er : ∀ t, G1 (rN j t) = G (rN j t) := fun t => iv_2 _ (fun c hc => by unfold rN cB cV cM; omega)
      have e3 : G1 (sB j) = G (sB j) := iv_2 _ (fun c hc => by unfold sB cB cV cM; omega)
      have ev : G1 (cV j i) = G (cV j i) := iv_2 _ (fun c hc => by unfold cB cV cM; omega)
      have em : G1 (cM j i) = G (cM j i) := iv_2 _ (fun c hc => by unfold cB cV cM; omega)
      have eb : G1 (cB j i) = G (cB j i) := iv_2 _ (fun c hc => by unfold cB cV cM; omega)
      refine lv_iload_n hx hb dX4_removeUnseen_4 rfl (lv_at hl 2 rfl) ?_
      refine lv_bipush (v := nI 12) hx hb dX4_removeUnseen_5 (by decide) ?_
      first
        | refine kic_ge (tgt := 39) hx hb dX4_removeUnseen_7 (by decide) (by with_reducible rfl) (by with_reducible rfl) (by omega) (by omega) (fun c_7 => ?_) (fun c_7 => ?_)
        | refine lv_icmp_ge (tgt := 39) hx hb dX4_removeUnseen_7 (by decide) (fun c_7 => ?_) (fun c_7 => ?_)
      · skip
        refine lv_aload_n hx hb dX4_removeUnseen_39 rfl (lv_at hl 0 rfl) ?_
        refine lv_dup hx hb dX4_removeUnseen_40 rfl ?_
        refine kget X hP (oS (by first | assumption | omega)) g_X4_62 rfl dX4_removeUnseen_41 ?_
        refine lv_iload_n hx hb dX4_removeUnseen_44 rfl (lv_at hl 1 rfl) ?_
        first
          | refine kadd hx hb dX4_removeUnseen_45 (by with_reducible rfl) (by with_reducible rfl) ?_
          | refine lv_iadd hx hb dX4_removeUnseen_45 ?_
        refine kput X hI hP hS (oS (by first | assumption | omega)) g_X4_62 (fun _ => rfl) rfl (fun _ => Nat.le_of_ble_eq_true rfl) rfl rfl dX4_removeUnseen_46 (fun H locs hP hS => ?_)
        refine lv_iload_n hx hb dX4_removeUnseen_49 rfl (lv_at hl 1 rfl) ?_
        exact hret _ _ _ _ _ _ (by
            have ei : i = 12 := (by omega)
            rw [ei] at iv_1 iv_2 iv_3
            refine ⟨by rw [iv_1], fun c hc => RT_to (iv_3 c hc) (gs_other (by unfold sB cB; omega)) (gs_other (by unfold sB cV; omega)) (gs_other (by unfold sB cM; omega)), fun f hf => by simp [gs, hf, e3], by simp [gs, e3], fun k h1 h2 => by rw [gs_other h1]; exact iv_2 k h2⟩) hP hS dX4_removeUnseen_50
      · skip
        refine lv_iload_n hx hb dX4_removeUnseen_10 rfl (lv_at hl 1 rfl) ?_
        refine lv_aload_n hx hb dX4_removeUnseen_11 rfl (lv_at hl 0 rfl) ?_
        refine kget X hP (oS (by first | assumption | omega)) g_X4_11 rfl dX4_removeUnseen_12 ?_
        refine lv_iload_n hx hb dX4_removeUnseen_15 rfl (lv_at hl 2 rfl) ?_
        refine kaald X hP (qC (by first | assumption | omega)) (by first | assumption | omega) rfl dX4_removeUnseen_16 ?_
        refine lv_aload_n hx hb dX4_removeUnseen_17 rfl (lv_at hl 0 rfl) ?_
        refine lv_aload_n hx hb dX4_removeUnseen_18 rfl (lv_at hl 0 rfl) ?_
        refine kget X hP (oS (by first | assumption | omega)) g_X4_11 rfl dX4_removeUnseen_19 ?_
        refine lv_iload_n hx hb dX4_removeUnseen_22 rfl (lv_at hl 2 rfl) ?_
        refine kaald X hP (qC (by first | assumption | omega)) (by first | assumption | omega) rfl dX4_removeUnseen_23 ?_
        refine lv_iconst (v := (-1)) hx hb dX4_removeUnseen_24 (by decide) ?_
        refine kcV X hP hS (c_X4_placesSeen l hI (q := -1) hj (by rw [e3]; exact hn) hn4 (by omega) (P := P i) (by rw [eb]; exact (hp i (by omega)).1) (hp i (by omega)).2.2) (oS (by first | assumption | omega)) v_X4_104 ⟨Nat.le_of_ble_eq_true rfl, Nat.le_of_ble_eq_true rfl, rfl, rfl⟩ rfl rfl (Nat.le_of_ble_eq_true rfl) hl.1 ⟨Nat.zero_le _, Nat.zero_le _⟩ dX4_removeUnseen_25 (fun r_25 G_25 H locs hR hP hS => ?_)
        obtain ⟨rfl, hG_25⟩ := hR
        rw [hG_25] at hP
        clear hG_25
        rw [psB_congr er em]
        refine kcV X hP hS (c_X0_retainOld l hI (P := P i) hj (by omega) (by rw [eb]; exact (hp i (by omega)).1) (hp i (by omega)).2.1 (hp i (by omega)).2.2) (oC (by first | assumption | omega) (by first | assumption | omega)) v_X4_108 ⟨Nat.le_of_ble_eq_true rfl, Nat.le_of_ble_eq_true rfl, rfl, rfl⟩ rfl rfl (Nat.le_of_ble_eq_true rfl) hl.1 ⟨Nat.zero_le _, Nat.zero_le _⟩ dX4_removeUnseen_28 (fun r_28 G_28 H locs hR hP hS => ?_)
        obtain ⟨rfl, hF_28, hR_28⟩ := hR
        first
          | refine kadd hx hb dX4_removeUnseen_31 (by with_reducible rfl) (by with_reducible rfl) ?_
          | refine lv_iadd hx hb dX4_removeUnseen_31 ?_
        refine kist hx hb dX4_removeUnseen_32 rfl hl (by decide) (kp_3_1 rfl) (fun ls hl => ?_)
        first
          | refine kinc (q := 2) hx hb dX4_removeUnseen_33 hl rfl (by decide) (kp_3_2 rfl) (fun ls hl => ?_)
          | refine kincG (q := 2) hx hb dX4_removeUnseen_33 hl rfl (by decide) (kp_3_2 rfl) (fun ls hl => ?_)
        refine lv_goto (tgt := 4) hx hb dX4_removeUnseen_36 (by decide) ?_
        exact ih_4 _ _ _ _ _ _ (by omega) (by omega) (by rw [iv_1]; rfl) (fun k hk => by rw [hF_28 k (hk i (by omega)).1 (hk i (by omega)).2.1 (hk i (by omega)).2.2]; exact iv_2 k (fun c hc => hk c (by omega))) (fun c hc => by
                rcases Nat.lt_or_ge c i with q | q
                · exact RT_to (iv_3 c q) (hF_28 _ (by unfold cB; omega) (by unfold cB cV; omega) (by unfold cB cM; omega)) (hF_28 _ (by unfold cB cV; omega) (by unfold cV; omega) (by unfold cV cM; omega)) (hF_28 _ (by unfold cB cM; omega) (by unfold cV cM; omega) (by unfold cM; omega))
                · have e : c = i := (by omega)
                  subst e
                  exact RT_of hR_28 ev em) hP hS (lv_sub hl [0,1,2] rfl)
  exact lp_4 _ 0 0 G _ _ _ (Nat.lt_succ_self _) (Nat.zero_le _) (rfl) (fun _ _ => rfl) (fun c h => absurd h (by omega)) hP hS (lv_sub hl [0,1,2] rfl)
end
section

theorem cn_congr {f g : Nat → Nat} {n : Nat} (h : ∀ i, i < n → f i = g i) : cn f n = cn g n := by
  induction n with
  | zero => rfl
  | succ n ih => rw [cn, cn, ih (fun i hi => h i (by omega)), h n (by omega)]
theorem sm_congr {f g : Nat → Int32} {n : Nat} (h : ∀ i, i < n → f i = g i) : sm f n = sm g n := by
  induction n with
  | zero => rfl
  | succ n ih => rw [sm, sm, ih (fun i hi => h i (by omega)), h n (by omega)]
def skN (G : Nat → Nat → Int32) (j r : Nat) : Nat → Nat := fun q => if skF (G (mC j q)) (G (rN j r)) then 1 else 0
theorem skN_congr {G G' : Nat → Nat → Int32} {j r k : Nat} (h1 : ∀ q, q < k → G' (mC j q) = G (mC j q)) (h2 : G' (rN j r) = G (rN j r)) : cn (fun q => if skF (G' (mC j q)) (G' (rN j r)) then 1 else 0) k = cn (skN G j r) k := by
  refine cn_congr (fun q hq => ?_)
  show (if skF (G' (mC j q)) (G' (rN j r)) then 1 else 0) = _
  rw [h1 q hq, h2]
  rfl
/-- a new version in front -/
def PU (G G' : Nat → Nat → Int32) (j c P : Nat) (x y : Int32) : Prop := G' (cB j c) 2 = nI (P + 1) ∧ G' (cV j c) 0 = x ∧ G' (cM j c) 0 = y ∧ ∀ p, p < P → G' (cV j c) (p + 1) = G (cV j c) p ∧ G' (cM j c) (p + 1) = G (cM j c) p
def CS (G G' : Nat → Nat → Int32) (j c : Nat) : Prop := G' (cB j c) = G (cB j c) ∧ G' (cV j c) = G (cV j c) ∧ G' (cM j c) = G (cM j c)
theorem PU_to {G G1 G2 : Nat → Nat → Int32} {j c P : Nat} {x y : Int32} (h : PU G G1 j c P x y) (q : CS G1 G2 j c) : PU G G2 j c P x y := by
  unfold PU
  rw [q.1, q.2.1, q.2.2]
  exact h
theorem PU_of {G G1 G2 : Nat → Nat → Int32} {j c P : Nat} {x y : Int32} (h : PU G1 G2 j c P x y) (q : CS G G1 j c) : PU G G2 j c P x y := by
  unfold PU at h ⊢
  rw [q.2.1, q.2.2] at h
  exact h
theorem CS_t {G G1 G2 : Nat → Nat → Int32} {j c : Nat} (h : CS G G1 j c) (q : CS G1 G2 j c) : CS G G2 j c := ⟨q.1.trans h.1, q.2.1.trans h.2.1, q.2.2.trans h.2.2⟩
set_option maxHeartbeats 4000000 in
set_option maxRecDepth 100000 in
theorem c_X4_noteCommit (l : Launch) {D : va_G} {τ : Nat → ClassId} {ad : Nat → Nat} (hI : kInj ad) {G : Nat → Nat → Int32} {j n k r mm : Nat} (hj : j < 7) (hk : G (sB j) 7 = nI k) (hk4 : k < 40) (hr : r < 40) (hm : G (sB j) 3 = nI mm) : kMv l yX4_noteCommit cX4_noteCommit 4 { frames := 2, cells := 0, slots := 0, locals := 44 } D τ ad [.ref (ad (sB j)), .int (nI r)] G (fun G' => (∀ q, q ≠ mC j k → q ≠ sB j → G' q = G q) ∧ (∀ f, f ≠ 7 → G' (sB j) f = G (sB j) f) ∧ G' (sB j) 7 = nI (k + 1) ∧ G' (mC j k) 0 = nI r ∧ G' (mC j k) 1 = G (rN j r) 2 ∧ G' (mC j k) 2 = nI (mm + 1) ∧ G' (mC j k) 3 = G (rN j r) 5 ∧ G' (mC j k) 4 = G (rN j r) 4 ∧ G' (mC j k) 5 = nI (cn (skN G j r) k)) := by
  refine kMetV (own := RX4) (by decide) rfl (Nat.le_of_ble_eq_true rfl) ?_
  intro p9 e9 s9 m9 args9 below9 meth9 c9 Q9 X hx hb hP hS hret ls hl
  have hPs := hP
  have hl : lv_has ls 4 [(0, .ref (ad (sB j))), (1, .int (nI r))] := hl
  have z0 : sB j ≠ mC j k := by unfold sB mC; omega
  have z1 : rN j r ≠ mC j k := by unfold rN mC; omega
  refine lv_aload_n hx hb dX4_noteCommit_0 rfl (lv_at hl 0 rfl) ?_
  refine kget X hP (oS (by first | assumption | omega)) g_X4_50 (congrArg (fun z => some (Value.int z)) hk) dX4_noteCommit_1 ?_
  refine lv_bipush (v := nI 40) hx hb dX4_noteCommit_4 (by decide) ?_
  first
    | refine kic_lt (tgt := 10) hx hb dX4_noteCommit_6 (by decide) (by with_reducible rfl) (by with_reducible rfl) (by omega) (by omega) (fun c_6 => ?_) (fun c_6 => ?_)
    | refine lv_icmp_lt (tgt := 10) hx hb dX4_noteCommit_6 (by decide) (fun c_6 => ?_) (fun c_6 => ?_)
  · skip
    refine lv_aload_n hx hb dX4_noteCommit_10 rfl (lv_at hl 0 rfl) ?_
    refine kget X hP (oS (by first | assumption | omega)) g_X4_19 rfl dX4_noteCommit_11 ?_
    refine lv_iload_n hx hb dX4_noteCommit_14 rfl (lv_at hl 1 rfl) ?_
    refine kaald X hP (qR (by first | assumption | omega)) (by first | assumption | omega) rfl dX4_noteCommit_15 ?_
    refine kast hx hb dX4_noteCommit_16 rfl hl (by decide) (kp_2_2 rfl) (fun ls hl => ?_)
    refine lv_aload_n hx hb dX4_noteCommit_17 rfl (lv_at hl 0 rfl) ?_
    refine kget X hP (oS (by first | assumption | omega)) g_X4_25 rfl dX4_noteCommit_18 ?_
    refine lv_aload_n hx hb dX4_noteCommit_21 rfl (lv_at hl 0 rfl) ?_
    refine kget X hP (oS (by first | assumption | omega)) g_X4_50 (congrArg (fun z => some (Value.int z)) hk) dX4_noteCommit_22 ?_
    refine kaald X hP (qM (by first | assumption | omega)) (by first | assumption | omega) rfl dX4_noteCommit_25 ?_
    refine kast hx hb dX4_noteCommit_26 rfl hl (by decide) (kp_3_3 rfl) (fun ls hl => ?_)
    refine lv_aload_n hx hb dX4_noteCommit_27 rfl (lv_at hl 3 rfl) ?_
    refine lv_iload_n hx hb dX4_noteCommit_28 rfl (lv_at hl 1 rfl) ?_
    refine kput X hI hP hS (oM (by first | assumption | omega) (by first | assumption | omega)) g_X4_168 (fun _ => rfl) rfl (fun _ => Nat.le_of_ble_eq_true rfl) rfl rfl dX4_noteCommit_29 (fun H locs hP hS => ?_)
    refine lv_aload_n hx hb dX4_noteCommit_32 rfl (lv_at hl 3 rfl) ?_
    refine lv_aload_n hx hb dX4_noteCommit_33 rfl (lv_at hl 2 rfl) ?_
    refine kget X hP (oR (by first | assumption | omega) (by first | assumption | omega)) g_X4_90 rfl dX4_noteCommit_34 ?_
    refine kput X hI hP hS (oM (by first | assumption | omega) (by first | assumption | omega)) g_X4_171 (fun _ => rfl) rfl (fun _ => Nat.le_of_ble_eq_true rfl) rfl rfl dX4_noteCommit_37 (fun H locs hP hS => ?_)
    refine lv_aload_n hx hb dX4_noteCommit_40 rfl (lv_at hl 3 rfl) ?_
    refine lv_aload_n hx hb dX4_noteCommit_41 rfl (lv_at hl 0 rfl) ?_
    refine kget X hP (oS (by first | assumption | omega)) g_X4_56 (congrArg (fun z => some (Value.int z)) (by simp [gs, z0, hm] : _ = nI mm)) dX4_noteCommit_42 ?_
    refine lv_iconst (v := nI 1) hx hb dX4_noteCommit_45 (by decide) ?_
    first
      | refine kadd hx hb dX4_noteCommit_46 (by with_reducible rfl) (by with_reducible rfl) ?_
      | refine lv_iadd hx hb dX4_noteCommit_46 ?_
    refine kput X hI hP hS (oM (by first | assumption | omega) (by first | assumption | omega)) g_X4_174 (fun _ => rfl) rfl (fun _ => Nat.le_of_ble_eq_true rfl) rfl rfl dX4_noteCommit_47 (fun H locs hP hS => ?_)
    refine lv_aload_n hx hb dX4_noteCommit_50 rfl (lv_at hl 3 rfl) ?_
    refine lv_aload_n hx hb dX4_noteCommit_51 rfl (lv_at hl 2 rfl) ?_
    refine kget X hP (oR (by first | assumption | omega) (by first | assumption | omega)) g_X4_158 rfl dX4_noteCommit_52 ?_
    refine kput X hI hP hS (oM (by first | assumption | omega) (by first | assumption | omega)) g_X4_177 (fun _ => rfl) rfl (fun _ => Nat.le_of_ble_eq_true rfl) rfl rfl dX4_noteCommit_55 (fun H locs hP hS => ?_)
    refine lv_aload_n hx hb dX4_noteCommit_58 rfl (lv_at hl 3 rfl) ?_
    refine lv_aload_n hx hb dX4_noteCommit_59 rfl (lv_at hl 2 rfl) ?_
    refine kget X hP (oR (by first | assumption | omega) (by first | assumption | omega)) g_X4_178 rfl dX4_noteCommit_60 ?_
    refine kput X hI hP hS (oM (by first | assumption | omega) (by first | assumption | omega)) g_X4_181 (fun _ => rfl) rfl (fun _ => Nat.le_of_ble_eq_true rfl) rfl rfl dX4_noteCommit_63 (fun H locs hP hS => ?_)
    refine lv_aload_n hx hb dX4_noteCommit_66 rfl (lv_at hl 3 rfl) ?_
    refine lv_aload_n hx hb dX4_noteCommit_67 rfl (lv_at hl 0 rfl) ?_
    refine lv_aload_n hx hb dX4_noteCommit_68 rfl (lv_at hl 2 rfl) ?_
    refine kcV X hP hS (c_X4_skewsOf l hI (k := k) hj (by simp [gs, z0, hk]) (by omega) hr) (oS (by first | assumption | omega)) v_X4_182 ⟨Nat.le_of_ble_eq_true rfl, Nat.le_of_ble_eq_true rfl, rfl, rfl⟩ rfl rfl (Nat.le_of_ble_eq_true rfl) hl.1 ⟨Nat.zero_le _, Nat.zero_le _⟩ dX4_noteCommit_69 (fun r_69 G_69 H locs hR hP hS => ?_)
    obtain ⟨rfl, hG_69⟩ := hR
    rw [hG_69] at hP
    clear hG_69
    rw [skN_congr (G := G) (fun q hq => by rw [gs_other (by unfold mC; omega), gs_other (by unfold mC; omega), gs_other (by unfold mC; omega), gs_other (by unfold mC; omega), gs_other (by unfold mC; omega)]) (by rw [gs_other z1, gs_other z1, gs_other z1, gs_other z1, gs_other z1])]
    refine kput X hI hP hS (oM (by first | assumption | omega) (by first | assumption | omega)) g_X4_150 (fun _ => rfl) rfl (fun _ => Nat.le_of_ble_eq_true rfl) rfl rfl dX4_noteCommit_72 (fun H locs hP hS => ?_)
    refine lv_aload_n hx hb dX4_noteCommit_75 rfl (lv_at hl 0 rfl) ?_
    refine lv_dup hx hb dX4_noteCommit_76 rfl ?_
    refine kget X hP (oS (by first | assumption | omega)) g_X4_50 (congrArg (fun z => some (Value.int z)) (by simp [gs, z0, hk] : _ = nI k)) dX4_noteCommit_77 ?_
    refine lv_iconst (v := nI 1) hx hb dX4_noteCommit_80 (by decide) ?_
    first
      | refine kadd hx hb dX4_noteCommit_81 (by with_reducible rfl) (by with_reducible rfl) ?_
      | refine lv_iadd hx hb dX4_noteCommit_81 ?_
    refine kput X hI hP hS (oS (by first | assumption | omega)) g_X4_50 (fun _ => rfl) rfl (fun _ => Nat.le_of_ble_eq_true rfl) rfl rfl dX4_noteCommit_82 (fun H locs hP hS => ?_)
    exact hret _ _ _ _ _ (by
        refine ⟨fun q h1 h2 => ?_, fun f hf => ?_, ?_, ?_, ?_, ?_, ?_, ?_, ?_⟩
        · funext f; simp [gs, h1, h2]
        · simp [gs, z0, hf]
        · simp [gs]
        all_goals simp [gs, z0.symm, z1]) hP hS dX4_noteCommit_85
  · skip
    exact absurd c_6 (by omega)

set_option maxHeartbeats 4000000 in
set_option maxRecDepth 100000 in
theorem c_X4_pushWrites (l : Launch) {D : va_G} {τ : Nat → ClassId} {ad : Nat → Nat} (hI : kInj ad) {G : Nat → Nat → Int32} {j r : Nat} {P : Nat → Nat} (hj : j < 7) (hr : r < 40) (hp : ∀ c, c < 12 → G (cB j c) 2 = nI (P c) ∧ P c ≤ 9) : kMv l yX4_pushWrites cX4_pushWrites 3 { frames := 2, cells := 0, slots := 0, locals := 62 } D τ ad [.ref (ad (sB j)), .ref (ad (rN j r))] G (fun G' => (∀ c, c < 12 → (hw (G (rN j r) 5) c → PU G G' j c (P c) (G (rW j r) c) (G (sB j) 3)) ∧ (¬ hw (G (rN j r) 5) c → CS G G' j c)) ∧ ∀ k, (∀ c, c < 12 → k ≠ cB j c ∧ k ≠ cV j c ∧ k ≠ cM j c) → G' k = G k) := by
  refine kMetV (own := RX4) (by decide) rfl (Nat.le_of_ble_eq_true rfl) ?_
  intro p9 e9 s9 m9 args9 below9 meth9 c9 Q9 X hx hb hP hS hret ls hl
  have hPs := hP
  have hl : lv_has ls 3 [(0, .ref (ad (sB j))), (1, .ref (ad (rN j r)))] := hl
  refine lv_iconst (v := nI 0) hx hb dX4_pushWrites_0 (by decide) ?_
  refine kist hx hb dX4_pushWrites_1 rfl hl (by decide) (kp_2_2 rfl) (fun ls hl => ?_)
  have lp_2 : ∀ (d : Nat) (i : Nat) (G1 : Nat → Nat → Int32) (H : Heap) (locs : List Loc) (ls : Array Slot), (12 - i) < d → (i ≤ 12) → (∀ k, (∀ c, c < i → k ≠ cB j c ∧ k ≠ cV j c ∧ k ≠ cM j c) → G1 k = G k) → (∀ c, c < i → (hw (G (rN j r) 5) c → PU G G1 j c (P c) (G (rW j r) c) (G (sB j) 3)) ∧ (¬ hw (G (rN j r) 5) c → CS G G1 j c)) → va_P D vwCl (kW τ ad G1) H → va_S (kAd ad) s9.heap H locs → lv_has ls 3 [(0, .ref (ad (sB j))), (1, .ref (ad (rN j r))), (2, .int (nI i))] → W p9 l e9 { frames := 2, cells := 0, slots := 0, locals := 62 } s9 m9 args9 below9 meth9 c9 H locs 0 0 Q9 (F0 m9 2 ls []) := by
    intro d
    induction d with
    | zero => exact fun _ _ _ _ _ hd => absurd hd (Nat.not_lt_zero _)
    | succ d ih_2 =>
      intro i G1 H locs ls hd iv_0 iv_1 iv_2 hP hS hl
      have er : G1 (rN j r) = G (rN j r) := iv_1 _ (fun c hc => by unfold rN cB cV cM; omega)
      have ew : G1 (rW j r) = G (rW j r) := iv_1 _ (fun c hc => by unfold rW cB cV cM; omega)
      have e3 : G1 (sB j) = G (sB j) := iv_1 _ (fun c hc => by unfold sB cB cV cM; omega)
      have ev : G1 (cV j i) = G (cV j i) := iv_1 _ (fun c hc => by unfold cB cV cM; omega)
      have em : G1 (cM j i) = G (cM j i) := iv_1 _ (fun c hc => by unfold cB cV cM; omega)
      have eb : G1 (cB j i) = G (cB j i) := iv_1 _ (fun c hc => by unfold cB cV cM; omega)
      refine lv_iload_n hx hb dX4_pushWrites_2 rfl (lv_at hl 2 rfl) ?_
      refine lv_bipush (v := nI 12) hx hb dX4_pushWrites_3 (by decide) ?_
      first
        | refine kic_ge (tgt := 41) hx hb dX4_pushWrites_5 (by decide) (by with_reducible rfl) (by with_reducible rfl) (by omega) (by omega) (fun c_5 => ?_) (fun c_5 => ?_)
        | refine lv_icmp_ge (tgt := 41) hx hb dX4_pushWrites_5 (by decide) (fun c_5 => ?_) (fun c_5 => ?_)
      · skip
        exact hret _ _ _ _ _ (by have ei : i = 12 := (by omega); rw [ei] at iv_1 iv_2; exact ⟨iv_2, iv_1⟩) hP hS dX4_pushWrites_41
      · skip
        refine lv_aload_n hx hb dX4_pushWrites_8 rfl (lv_at hl 1 rfl) ?_
        refine lv_iload_n hx hb dX4_pushWrites_9 rfl (lv_at hl 2 rfl) ?_
        refine kcV X hP hS (c_X3_hasWrite l hI (by first | assumption | omega) (by first | assumption | omega)) (oR (by first | assumption | omega) (by first | assumption | omega)) v_X4_86 ⟨Nat.le_of_ble_eq_true rfl, Nat.le_of_ble_eq_true rfl, rfl, rfl⟩ rfl rfl (Nat.le_of_ble_eq_true rfl) hl.1 ⟨Nat.zero_le _, Nat.zero_le _⟩ dX4_pushWrites_10 (fun r_10 G_10 H locs hR hP hS => ?_)
        obtain ⟨rfl, hG_10⟩ := hR
        rw [hG_10] at hP
        clear hG_10
        first
          | refine kif_eq (tgt := 35) hx hb dX4_pushWrites_13 (by decide) (fun c_13 => ?_) (fun c_13 => ?_)
          | refine lv_if_eq (tgt := 35) hx hb dX4_pushWrites_13 (by decide) (fun c_13 => ?_) (fun c_13 => ?_)
        · skip
          first
            | refine kinc (q := 2) hx hb dX4_pushWrites_35 hl rfl (by decide) (kp_3_2 rfl) (fun ls hl => ?_)
            | refine kincG (q := 2) hx hb dX4_pushWrites_35 hl rfl (by decide) (kp_3_2 rfl) (fun ls hl => ?_)
          refine lv_goto (tgt := 2) hx hb dX4_pushWrites_38 (by decide) ?_
          exact ih_2 _ _ _ _ _ (by omega) (by omega) (fun k hk => iv_1 k (fun c hc => hk c (by omega))) (fun c hc => by
                  rcases Nat.lt_or_ge c i with q | q
                  · exact iv_2 c q
                  · have e : c = i := (by omega)
                    subst e
                    exact ⟨fun z => absurd (by rw [er]; exact z) c_13, fun _ => ⟨eb, ev, em⟩⟩) hP hS (lv_sub hl [0,1,2] rfl)
        · skip
          refine lv_aload_n hx hb dX4_pushWrites_16 rfl (lv_at hl 0 rfl) ?_
          refine kget X hP (oS (by first | assumption | omega)) g_X4_11 rfl dX4_pushWrites_17 ?_
          refine lv_iload_n hx hb dX4_pushWrites_20 rfl (lv_at hl 2 rfl) ?_
          refine kaald X hP (qC (by first | assumption | omega)) (by first | assumption | omega) rfl dX4_pushWrites_21 ?_
          refine lv_aload_n hx hb dX4_pushWrites_22 rfl (lv_at hl 1 rfl) ?_
          refine kget X hP (oR (by first | assumption | omega) (by first | assumption | omega)) g_X4_185 rfl dX4_pushWrites_23 ?_
          refine lv_iload_n hx hb dX4_pushWrites_26 rfl (lv_at hl 2 rfl) ?_
          refine kiald X hP (aW (by first | assumption | omega) (by first | assumption | omega)) (by omega) dX4_pushWrites_27 ?_
          refine lv_aload_n hx hb dX4_pushWrites_28 rfl (lv_at hl 0 rfl) ?_
          refine kget X hP (oS (by first | assumption | omega)) g_X4_56 rfl dX4_pushWrites_29 ?_
          refine kcVv X hP hS (c_X0_push l hI (P := P i) hj (by omega) (by rw [eb]; exact (hp i (by omega)).1) (hp i (by omega)).2) (oC (by first | assumption | omega) (by first | assumption | omega)) v_X4_188 ⟨Nat.le_of_ble_eq_true rfl, Nat.le_of_ble_eq_true rfl, rfl, rfl⟩ rfl rfl (Nat.le_of_ble_eq_true rfl) hl.1 ⟨Nat.zero_le _, Nat.zero_le _⟩ dX4_pushWrites_32 (fun G_32 H locs hR hP hS => ?_)
          have h_32 := hR
          first
            | refine kinc (q := 2) hx hb dX4_pushWrites_35 hl rfl (by decide) (kp_3_2 rfl) (fun ls hl => ?_)
            | refine kincG (q := 2) hx hb dX4_pushWrites_35 hl rfl (by decide) (kp_3_2 rfl) (fun ls hl => ?_)
          refine lv_goto (tgt := 2) hx hb dX4_pushWrites_38 (by decide) ?_
          exact ih_2 _ _ _ _ _ (by omega) (by omega) (fun k hk => by rw [h_32.1 k (hk i (by omega)).1 (hk i (by omega)).2.1 (hk i (by omega)).2.2]; exact iv_1 k (fun c hc => hk c (by omega))) (fun c hc => by
                  rcases Nat.lt_or_ge c i with q | q
                  · have cs : CS G1 G_32 j c := ⟨h_32.1 _ (by unfold cB; omega) (by unfold cB cV; omega) (by unfold cB cM; omega), h_32.1 _ (by unfold cV cB; omega) (by unfold cV; omega) (by unfold cV cM; omega), h_32.1 _ (by unfold cM cB; omega) (by unfold cM cV; omega) (by unfold cM; omega)⟩
                    exact ⟨fun z => PU_to ((iv_2 c q).1 z) cs, fun z => CS_t ((iv_2 c q).2 z) cs⟩
                  · have e : c = i := (by omega)
                    subst e
                    have hh : PU G1 G_32 j c (P c) (G1 (rW j r) c) (G1 (sB j) 3) := h_32.2
                    rw [ew, e3] at hh
                    exact ⟨fun _ => PU_of hh ⟨eb, ev, em⟩, fun z => absurd (by rw [← er]; exact c_13) z⟩) hP hS (lv_sub hl [0,1,2] rfl)
  exact lp_2 _ 0 G _ _ _ (Nat.lt_succ_self _) (Nat.zero_le _) (fun _ _ => rfl) (fun c h => absurd h (by omega)) hP hS (lv_sub hl [0,1,2] rfl)

/-- of one state's block what another's holds -/
def CE (G G' : Nat → Nat → Int32) (j j2 c : Nat) : Prop := (∀ p, p < 10 → G' (cV j c) p = G (cV j2 c) p ∧ G' (cM j c) p = G (cM j2 c) p) ∧ G' (cB j c) 2 = G (cB j2 c) 2
def RE (G G' : Nat → Nat → Int32) (j j2 r : Nat) : Prop := (∀ p, p < 12 → G' (rW j r) p = G (rW j2 r) p) ∧ ∀ f, 1 ≤ f → f ≤ 8 → G' (rN j r) f = G (rN j2 r) f
def ME (G G' : Nat → Nat → Int32) (j j2 q : Nat) : Prop := ∀ f, f < 6 → G' (mC j q) f = G (mC j2 q) f
theorem CE_k {G G1 G2 : Nat → Nat → Int32} {j j2 c : Nat} (h : CE G G1 j j2 c) (q : CS G1 G2 j c) : CE G G2 j j2 c := by
  unfold CE
  rw [q.1, q.2.1, q.2.2]
  exact h
theorem RE_k {G G1 G2 : Nat → Nat → Int32} {j j2 r : Nat} (h : RE G G1 j j2 r) (q1 : G2 (rN j r) = G1 (rN j r)) (q2 : G2 (rW j r) = G1 (rW j r)) : RE G G2 j j2 r := by
  unfold RE
  rw [q1, q2]
  exact h
theorem ME_k {G G1 G2 : Nat → Nat → Int32} {j j2 q : Nat} (h : ME G G1 j j2 q) (q1 : G2 (mC j q) = G1 (mC j q)) : ME G G2 j j2 q := by
  unfold ME
  rw [q1]
  exact h
def CPY (G G' : Nat → Nat → Int32) (j j2 n k : Nat) : Prop := (∀ q, (q < sB j ∨ sB j + 161 ≤ q) → G' q = G q) ∧ (∀ c, c < 12 → CE G G' j j2 c) ∧ (∀ r, r < n → RE G G' j j2 r) ∧ (∀ q, q < k → ME G G' j j2 q) ∧ ∀ f, 3 ≤ f → f ≤ 9 → G' (sB j) f = G (sB j2) f
set_option maxHeartbeats 4000000 in
set_option maxRecDepth 100000 in
theorem c_X4_copyFrom (l : Launch) {D : va_G} {τ : Nat → ClassId} {ad : Nat → Nat} (hI : kInj ad) {G : Nat → Nat → Int32} {j j2 n k : Nat} (hj : j < 7) (hj2 : j2 < 7) (hne : j ≠ j2) (hn : G (sB j2) 6 = nI n) (hn4 : n ≤ 40) (hk : G (sB j2) 7 = nI k) (hk4 : k ≤ 40) (hz : ∀ r, r < n → G (rN j2 r) 8 = 0 ∨ G (rN j2 r) 8 = 1) (hy : G (sB j2) 9 = 0 ∨ G (sB j2) 9 = 1) : kMv l yX4_copyFrom cX4_copyFrom 3 { frames := 2, cells := 0, slots := 0, locals := 61 } D τ ad [.ref (ad (sB j)), .ref (ad (sB j2))] G (fun G' => CPY G G' j j2 n k) := by
  refine kMetV (own := RX4) (by decide) rfl (Nat.le_of_ble_eq_true rfl) ?_
  intro p9 e9 s9 m9 args9 below9 meth9 c9 Q9 X hx hb hP hS hret ls hl
  have hPs := hP
  have hl : lv_has ls 3 [(0, .ref (ad (sB j))), (1, .ref (ad (sB j2)))] := hl
  refine lv_iconst (v := nI 0) hx hb dX4_copyFrom_0 (by decide) ?_
  refine kist hx hb dX4_copyFrom_1 rfl hl (by decide) (kp_2_2 rfl) (fun ls hl => ?_)
  have lp_2 : ∀ (d : Nat) (i : Nat) (G1 : Nat → Nat → Int32) (H : Heap) (locs : List Loc) (ls : Array Slot), (12 - i) < d → (i ≤ 12) → (∀ q, (q < sB j ∨ sB j + 161 ≤ q) → G1 q = G q) → (∀ c, c < i → CE G G1 j j2 c) → va_P D vwCl (kW τ ad G1) H → va_S (kAd ad) s9.heap H locs → lv_has ls 3 [(0, .ref (ad (sB j))), (1, .ref (ad (sB j2))), (2, .int (nI i))] → W p9 l e9 { frames := 2, cells := 0, slots := 0, locals := 61 } s9 m9 args9 below9 meth9 c9 H locs 0 0 Q9 (F0 m9 2 ls []) := by
    intro d
    induction d with
    | zero => exact fun _ _ _ _ _ hd => absurd hd (Nat.not_lt_zero _)
    | succ d ih_2 =>
      intro i G1 H locs ls hd iv_0 iv_1 iv_2 hP hS hl
      have ey : ∀ o, o < 161 → G1 (sB j2 + o) = G (sB j2 + o) := fun o ho => iv_1 _ (by unfold sB; omega)
      have e3 : G1 (sB j2) = G (sB j2) := ey 0 (by omega)
      refine lv_iload_n hx hb dX4_copyFrom_2 rfl (lv_at hl 2 rfl) ?_
      refine lv_bipush (v := nI 12) hx hb dX4_copyFrom_3 (by decide) ?_
      first
        | refine kic_ge (tgt := 29) hx hb dX4_copyFrom_5 (by decide) (by with_reducible rfl) (by with_reducible rfl) (by omega) (by omega) (fun c_5 => ?_) (fun c_5 => ?_)
        | refine lv_icmp_ge (tgt := 29) hx hb dX4_copyFrom_5 (by decide) (fun c_5 => ?_) (fun c_5 => ?_)
      · skip
        refine lv_iconst (v := nI 0) hx hb dX4_copyFrom_29 (by decide) ?_
        refine kist hx hb dX4_copyFrom_30 rfl hl (by decide) (kp_3_2 rfl) (fun ls hl => ?_)
        have lp_31 : ∀ (d : Nat) (i : Nat) (G1 : Nat → Nat → Int32) (H : Heap) (locs : List Loc) (ls : Array Slot), (n - i) < d → (i ≤ n) → (∀ q, (q < sB j ∨ sB j + 161 ≤ q) → G1 q = G q) → (∀ c, c < 12 → CE G G1 j j2 c) → (∀ r, r < i → RE G G1 j j2 r) → va_P D vwCl (kW τ ad G1) H → va_S (kAd ad) s9.heap H locs → lv_has ls 3 [(0, .ref (ad (sB j))), (1, .ref (ad (sB j2))), (2, .int (nI i))] → W p9 l e9 { frames := 2, cells := 0, slots := 0, locals := 61 } s9 m9 args9 below9 meth9 c9 H locs 0 0 Q9 (F0 m9 31 ls []) := by
          intro d
          induction d with
          | zero => exact fun _ _ _ _ _ hd => absurd hd (Nat.not_lt_zero _)
          | succ d ih_31 =>
            intro i G1 H locs ls hd iv_0 iv_1 iv_2 iv_3 hP hS hl
            have ey : ∀ o, o < 161 → G1 (sB j2 + o) = G (sB j2 + o) := fun o ho => iv_1 _ (by unfold sB; omega)
            have e3 : G1 (sB j2) = G (sB j2) := ey 0 (by omega)
            refine lv_iload_n hx hb dX4_copyFrom_31 rfl (lv_at hl 2 rfl) ?_
            refine lv_aload_n hx hb dX4_copyFrom_32 rfl (lv_at hl 1 rfl) ?_
            refine kget X hP (oS (by first | assumption | omega)) g_X4_44 (congrArg (fun z => some (Value.int z)) (show G1 (sB j2) 6 = nI n from by rw [e3]; exact hn)) dX4_copyFrom_33 ?_
            first
              | refine kic_ge (tgt := 60) hx hb dX4_copyFrom_36 (by decide) (by with_reducible rfl) (by with_reducible rfl) (by omega) (by omega) (fun c_36 => ?_) (fun c_36 => ?_)
              | refine lv_icmp_ge (tgt := 60) hx hb dX4_copyFrom_36 (by decide) (fun c_36 => ?_) (fun c_36 => ?_)
            · skip
              refine lv_iconst (v := nI 0) hx hb dX4_copyFrom_60 (by decide) ?_
              refine kist hx hb dX4_copyFrom_61 rfl hl (by decide) (kp_3_2 rfl) (fun ls hl => ?_)
              have lp_62 : ∀ (d : Nat) (i : Nat) (G1 : Nat → Nat → Int32) (H : Heap) (locs : List Loc) (ls : Array Slot), (k - i) < d → (i ≤ k) → (∀ q, (q < sB j ∨ sB j + 161 ≤ q) → G1 q = G q) → (∀ c, c < 12 → CE G G1 j j2 c) → (∀ r, r < n → RE G G1 j j2 r) → (∀ q, q < i → ME G G1 j j2 q) → va_P D vwCl (kW τ ad G1) H → va_S (kAd ad) s9.heap H locs → lv_has ls 3 [(0, .ref (ad (sB j))), (1, .ref (ad (sB j2))), (2, .int (nI i))] → W p9 l e9 { frames := 2, cells := 0, slots := 0, locals := 61 } s9 m9 args9 below9 meth9 c9 H locs 0 0 Q9 (F0 m9 62 ls []) := by
                intro d
                induction d with
                | zero => exact fun _ _ _ _ _ hd => absurd hd (Nat.not_lt_zero _)
                | succ d ih_62 =>
                  intro i G1 H locs ls hd iv_0 iv_1 iv_2 iv_3 iv_4 hP hS hl
                  have ey : ∀ o, o < 161 → G1 (sB j2 + o) = G (sB j2 + o) := fun o ho => iv_1 _ (by unfold sB; omega)
                  have e3 : G1 (sB j2) = G (sB j2) := ey 0 (by omega)
                  refine lv_iload_n hx hb dX4_copyFrom_62 rfl (lv_at hl 2 rfl) ?_
                  refine lv_aload_n hx hb dX4_copyFrom_63 rfl (lv_at hl 1 rfl) ?_
                  refine kget X hP (oS (by first | assumption | omega)) g_X4_50 (congrArg (fun z => some (Value.int z)) (show G1 (sB j2) 7 = nI k from by rw [e3]; exact hk)) dX4_copyFrom_64 ?_
                  first
                    | refine kic_ge (tgt := 91) hx hb dX4_copyFrom_67 (by decide) (by with_reducible rfl) (by with_reducible rfl) (by omega) (by omega) (fun c_67 => ?_) (fun c_67 => ?_)
                    | refine lv_icmp_ge (tgt := 91) hx hb dX4_copyFrom_67 (by decide) (fun c_67 => ?_) (fun c_67 => ?_)
                  · skip
                    have zs : sB j2 ≠ sB j := by unfold sB; omega
                    refine lv_aload_n hx hb dX4_copyFrom_91 rfl (lv_at hl 0 rfl) ?_
                    refine lv_aload_n hx hb dX4_copyFrom_92 rfl (lv_at hl 1 rfl) ?_
                    refine kget X hP (oS (by first | assumption | omega)) g_X4_56 rfl dX4_copyFrom_93 ?_
                    refine kput X hI hP hS (oS (by first | assumption | omega)) g_X4_56 (fun _ => rfl) rfl (fun _ => Nat.le_of_ble_eq_true rfl) rfl rfl dX4_copyFrom_96 (fun H locs hP hS => ?_)
                    refine lv_aload_n hx hb dX4_copyFrom_99 rfl (lv_at hl 0 rfl) ?_
                    refine lv_aload_n hx hb dX4_copyFrom_100 rfl (lv_at hl 1 rfl) ?_
                    refine kget X hP (oS (by first | assumption | omega)) g_X4_59 rfl dX4_copyFrom_101 ?_
                    refine kput X hI hP hS (oS (by first | assumption | omega)) g_X4_59 (fun _ => rfl) rfl (fun _ => Nat.le_of_ble_eq_true rfl) rfl rfl dX4_copyFrom_104 (fun H locs hP hS => ?_)
                    refine lv_aload_n hx hb dX4_copyFrom_107 rfl (lv_at hl 0 rfl) ?_
                    refine lv_aload_n hx hb dX4_copyFrom_108 rfl (lv_at hl 1 rfl) ?_
                    refine kget X hP (oS (by first | assumption | omega)) g_X4_29 rfl dX4_copyFrom_109 ?_
                    refine kput X hI hP hS (oS (by first | assumption | omega)) g_X4_29 (fun _ => rfl) rfl (fun _ => Nat.le_of_ble_eq_true rfl) rfl rfl dX4_copyFrom_112 (fun H locs hP hS => ?_)
                    refine lv_aload_n hx hb dX4_copyFrom_115 rfl (lv_at hl 0 rfl) ?_
                    refine lv_aload_n hx hb dX4_copyFrom_116 rfl (lv_at hl 1 rfl) ?_
                    refine kget X hP (oS (by first | assumption | omega)) g_X4_44 rfl dX4_copyFrom_117 ?_
                    refine kput X hI hP hS (oS (by first | assumption | omega)) g_X4_44 (fun _ => rfl) rfl (fun _ => Nat.le_of_ble_eq_true rfl) rfl rfl dX4_copyFrom_120 (fun H locs hP hS => ?_)
                    refine lv_aload_n hx hb dX4_copyFrom_123 rfl (lv_at hl 0 rfl) ?_
                    refine lv_aload_n hx hb dX4_copyFrom_124 rfl (lv_at hl 1 rfl) ?_
                    refine kget X hP (oS (by first | assumption | omega)) g_X4_50 rfl dX4_copyFrom_125 ?_
                    refine kput X hI hP hS (oS (by first | assumption | omega)) g_X4_50 (fun _ => rfl) rfl (fun _ => Nat.le_of_ble_eq_true rfl) rfl rfl dX4_copyFrom_128 (fun H locs hP hS => ?_)
                    refine lv_aload_n hx hb dX4_copyFrom_131 rfl (lv_at hl 0 rfl) ?_
                    refine lv_aload_n hx hb dX4_copyFrom_132 rfl (lv_at hl 1 rfl) ?_
                    refine kget X hP (oS (by first | assumption | omega)) g_X4_62 rfl dX4_copyFrom_133 ?_
                    refine kput X hI hP hS (oS (by first | assumption | omega)) g_X4_62 (fun _ => rfl) rfl (fun _ => Nat.le_of_ble_eq_true rfl) rfl rfl dX4_copyFrom_136 (fun H locs hP hS => ?_)
                    refine lv_aload_n hx hb dX4_copyFrom_139 rfl (lv_at hl 0 rfl) ?_
                    refine lv_aload_n hx hb dX4_copyFrom_140 rfl (lv_at hl 1 rfl) ?_
                    refine kget X hP (oS (by first | assumption | omega)) g_X4_65 rfl dX4_copyFrom_141 ?_
                    have hz2 : ∀ q : Int32, q = G1 (sB j2) 9 → narrow (tyX4 9) (.int q) = .int q ∧ fits (tyX4 9) (.int q) = true := fun q hq => by rw [e3] at hq; rcases hy with h | h <;> rw [hq, h] <;> exact ⟨rfl, rfl⟩
                    refine kput X hI hP hS (oS (by first | assumption | omega)) g_X4_65 (fun _ => rfl) rfl (fun _ => Nat.le_of_ble_eq_true rfl) (hz2 _ (by simp [gs, zs])).1 (hz2 _ (by simp [gs, zs])).2 dX4_copyFrom_144 (fun H locs hP hS => ?_)
                    exact hret _ _ _ _ _ (by
                        have ei : i = k := (by omega)
                        rw [ei] at iv_4
                        refine ⟨fun q hq => ?_, fun c hc => ?_, fun r hr => ?_, fun q hq => ?_, fun f h1 h2 => ?_⟩
                        · have zz : q ≠ sB j := (by omega)
                          rw [← iv_1 q hq]; funext f; simp [gs, zz]
                        · exact CE_k (iv_2 c hc) ⟨by have zz : cB j c ≠ sB j := (by unfold cB sB; omega)
                                                     funext f; simp [gs, zz], by have zz : cV j c ≠ sB j := (by unfold cV sB; omega)
                                                                                 funext f; simp [gs, zz], by have zz : cM j c ≠ sB j := (by unfold cM sB; omega)
                                                                                                             funext f; simp [gs, zz]⟩
                        · exact RE_k (iv_3 r hr) (by have zz : rN j r ≠ sB j := (by unfold rN sB; omega)
                                                     funext f; simp [gs, zz]) (by have zz : rW j r ≠ sB j := (by unfold rW sB; omega)
                                                                                  funext f; simp [gs, zz])
                        · exact ME_k (iv_4 q hq) (by have zz : mC j q ≠ sB j := (by unfold mC sB; omega)
                                                     funext f; simp [gs, zz])
                        · rw [← e3]; rcases (show f = 3 ∨ f = 4 ∨ f = 5 ∨ f = 6 ∨ f = 7 ∨ f = 8 ∨ f = 9 by omega) with h | h | h | h | h | h | h <;> subst h <;> simp [gs, zs]) hP hS dX4_copyFrom_147
                  · skip
                    refine lv_aload_n hx hb dX4_copyFrom_70 rfl (lv_at hl 0 rfl) ?_
                    refine kget X hP (oS (by first | assumption | omega)) g_X4_25 rfl dX4_copyFrom_71 ?_
                    refine lv_iload_n hx hb dX4_copyFrom_74 rfl (lv_at hl 2 rfl) ?_
                    refine kaald X hP (qM hj) (by first | assumption | omega) rfl dX4_copyFrom_75 ?_
                    refine lv_aload_n hx hb dX4_copyFrom_76 rfl (lv_at hl 1 rfl) ?_
                    refine kget X hP (oS (by first | assumption | omega)) g_X4_25 rfl dX4_copyFrom_77 ?_
                    refine lv_iload_n hx hb dX4_copyFrom_80 rfl (lv_at hl 2 rfl) ?_
                    refine kaald X hP (qM hj2) (by first | assumption | omega) rfl dX4_copyFrom_81 ?_
                    refine kcVv X hP hS (c_X1_copyFrom l hI hj (by omega) hj2 (by omega)) (oM hj (by omega)) v_X4_53 ⟨Nat.le_of_ble_eq_true rfl, Nat.le_of_ble_eq_true rfl, rfl, rfl⟩ rfl rfl (Nat.le_of_ble_eq_true rfl) hl.1 ⟨Nat.zero_le _, Nat.zero_le _⟩ dX4_copyFrom_82 (fun G_82 H locs hR hP hS => ?_)
                    have h_82 := hR
                    first
                      | refine kinc (q := 2) hx hb dX4_copyFrom_85 hl rfl (by decide) (kp_3_2 rfl) (fun ls hl => ?_)
                      | refine kincG (q := 2) hx hb dX4_copyFrom_85 hl rfl (by decide) (kp_3_2 rfl) (fun ls hl => ?_)
                    refine lv_goto (tgt := 62) hx hb dX4_copyFrom_88 (by decide) ?_
                    exact ih_62 _ _ _ _ _ (by omega) (by omega) (fun q hq => by rw [h_82.1 q (by unfold mC; unfold sB at hq; omega)]; exact iv_1 q hq) (fun c hc => CE_k (iv_2 c hc) ⟨h_82.1 _ (by unfold cB mC; omega), h_82.1 _ (by unfold cV mC; omega), h_82.1 _ (by unfold cM mC; omega)⟩) (fun r hr => RE_k (iv_3 r hr) (h_82.1 _ (by unfold rN mC; omega)) (h_82.1 _ (by unfold rW mC; omega))) (fun q hq => by
                            rcases Nat.lt_or_ge q i with z | z
                            · exact ME_k (iv_4 q z) (h_82.1 _ (by unfold mC; omega))
                            · have e : q = i := (by omega)
                              subst e
                              have w1 : G1 (mC j2 q) = G (mC j2 q) := iv_1 _ (by unfold mC sB; omega)
                              have hh := h_82.2
                              rw [w1] at hh
                              exact hh) hP hS (lv_sub hl [0,1,2] rfl)
              exact lp_62 _ 0 G1 _ _ _ (Nat.lt_succ_self _) (Nat.zero_le _) (iv_1) (iv_2) (fun c hc => iv_3 c (by omega)) (fun c h => absurd h (by omega)) hP hS (lv_sub hl [0,1,2] rfl)
            · skip
              refine lv_aload_n hx hb dX4_copyFrom_39 rfl (lv_at hl 0 rfl) ?_
              refine kget X hP (oS (by first | assumption | omega)) g_X4_19 rfl dX4_copyFrom_40 ?_
              refine lv_iload_n hx hb dX4_copyFrom_43 rfl (lv_at hl 2 rfl) ?_
              refine kaald X hP (qR hj) (by first | assumption | omega) rfl dX4_copyFrom_44 ?_
              refine lv_aload_n hx hb dX4_copyFrom_45 rfl (lv_at hl 1 rfl) ?_
              refine kget X hP (oS (by first | assumption | omega)) g_X4_19 rfl dX4_copyFrom_46 ?_
              refine lv_iload_n hx hb dX4_copyFrom_49 rfl (lv_at hl 2 rfl) ?_
              refine kaald X hP (qR hj2) (by first | assumption | omega) rfl dX4_copyFrom_50 ?_
              refine kcVv X hP hS (c_X3_copyFrom l hI hj (by omega) hj2 (by omega) (by rw [show G1 (rN j2 i) = G (rN j2 i) from iv_1 _ (by unfold rN sB; omega)]; exact hz i (by omega))) (oR hj (by omega)) v_X4_47 ⟨Nat.le_of_ble_eq_true rfl, Nat.le_of_ble_eq_true rfl, rfl, rfl⟩ rfl rfl (Nat.le_of_ble_eq_true rfl) hl.1 ⟨Nat.zero_le _, Nat.zero_le _⟩ dX4_copyFrom_51 (fun G_51 H locs hR hP hS => ?_)
              have h_51 := hR
              first
                | refine kinc (q := 2) hx hb dX4_copyFrom_54 hl rfl (by decide) (kp_3_2 rfl) (fun ls hl => ?_)
                | refine kincG (q := 2) hx hb dX4_copyFrom_54 hl rfl (by decide) (kp_3_2 rfl) (fun ls hl => ?_)
              refine lv_goto (tgt := 31) hx hb dX4_copyFrom_57 (by decide) ?_
              exact ih_31 _ _ _ _ _ (by omega) (by omega) (fun q hq => by rw [h_51.1 q (by unfold rN; unfold sB at hq; omega) (by unfold rW; unfold sB at hq; omega)]; exact iv_1 q hq) (fun c hc => CE_k (iv_2 c hc) ⟨h_51.1 _ (by unfold cB rN; omega) (by unfold cB rW; omega), h_51.1 _ (by unfold cV rN; omega) (by unfold cV rW; omega), h_51.1 _ (by unfold cM rN; omega) (by unfold cM rW; omega)⟩) (fun r hr => by
                      rcases Nat.lt_or_ge r i with q | q
                      · exact RE_k (iv_3 r q) (h_51.1 _ (by unfold rN; omega) (by unfold rN rW; omega)) (h_51.1 _ (by unfold rW rN; omega) (by unfold rW; omega))
                      · have e : r = i := (by omega)
                        subst e
                        have w1 : G1 (rN j2 r) = G (rN j2 r) := iv_1 _ (by unfold rN sB; omega)
                        have w2 : G1 (rW j2 r) = G (rW j2 r) := iv_1 _ (by unfold rW sB; omega)
                        have hh := h_51.2
                        rw [w1, w2] at hh
                        exact hh) hP hS (lv_sub hl [0,1,2] rfl)
        exact lp_31 _ 0 G1 _ _ _ (Nat.lt_succ_self _) (Nat.zero_le _) (iv_1) (fun c hc => iv_2 c (by omega)) (fun c h => absurd h (by omega)) hP hS (lv_sub hl [0,1,2] rfl)
      · skip
        refine lv_aload_n hx hb dX4_copyFrom_8 rfl (lv_at hl 0 rfl) ?_
        refine kget X hP (oS (by first | assumption | omega)) g_X4_11 rfl dX4_copyFrom_9 ?_
        refine lv_iload_n hx hb dX4_copyFrom_12 rfl (lv_at hl 2 rfl) ?_
        refine kaald X hP (qC hj) (by first | assumption | omega) rfl dX4_copyFrom_13 ?_
        refine lv_aload_n hx hb dX4_copyFrom_14 rfl (lv_at hl 1 rfl) ?_
        refine kget X hP (oS (by first | assumption | omega)) g_X4_11 rfl dX4_copyFrom_15 ?_
        refine lv_iload_n hx hb dX4_copyFrom_18 rfl (lv_at hl 2 rfl) ?_
        refine kaald X hP (qC hj2) (by first | assumption | omega) rfl dX4_copyFrom_19 ?_
        refine kcVv X hP hS (c_X0_copyFrom l hI hj (by omega) hj2 (by omega)) (oC hj (by omega)) v_X4_40 ⟨Nat.le_of_ble_eq_true rfl, Nat.le_of_ble_eq_true rfl, rfl, rfl⟩ rfl rfl (Nat.le_of_ble_eq_true rfl) hl.1 ⟨Nat.zero_le _, Nat.zero_le _⟩ dX4_copyFrom_20 (fun G_20 H locs hR hP hS => ?_)
        have h_20 := hR
        first
          | refine kinc (q := 2) hx hb dX4_copyFrom_23 hl rfl (by decide) (kp_3_2 rfl) (fun ls hl => ?_)
          | refine kincG (q := 2) hx hb dX4_copyFrom_23 hl rfl (by decide) (kp_3_2 rfl) (fun ls hl => ?_)
        refine lv_goto (tgt := 2) hx hb dX4_copyFrom_26 (by decide) ?_
        exact ih_2 _ _ _ _ _ (by omega) (by omega) (fun q hq => by rw [h_20.1 q (by unfold cB; unfold sB at hq; omega) (by unfold cV; unfold sB at hq; omega) (by unfold cM; unfold sB at hq; omega)]; exact iv_1 q hq) (fun c hc => by
                rcases Nat.lt_or_ge c i with q | q
                · exact CE_k (iv_2 c q) ⟨h_20.1 _ (by unfold cB; omega) (by unfold cB cV; omega) (by unfold cB cM; omega), h_20.1 _ (by unfold cV cB; omega) (by unfold cV; omega) (by unfold cV cM; omega), h_20.1 _ (by unfold cM cB; omega) (by unfold cM cV; omega) (by unfold cM; omega)⟩
                · have e : c = i := (by omega)
                  subst e
                  have w1 : G1 (cV j2 c) = G (cV j2 c) := iv_1 _ (by unfold cV sB; omega)
                  have w2 : G1 (cM j2 c) = G (cM j2 c) := iv_1 _ (by unfold cM sB; omega)
                  have w3 : G1 (cB j2 c) = G (cB j2 c) := iv_1 _ (by unfold cB sB; omega)
                  have hh := h_20.2
                  rw [w1, w2, w3] at hh
                  exact hh) hP hS (lv_sub hl [0,1,2] rfl)
  exact lp_2 _ 0 G _ _ _ (Nat.lt_succ_self _) (Nat.zero_le _) (fun _ _ => rfl) (fun c h => absurd h (by omega)) hP hS (lv_sub hl [0,1,2] rfl)
end
section

def CB (G G' : Nat → Nat → Int32) (j j2 n k : Nat) : Prop := (∀ c, c < 12 → CE G G' j j2 c) ∧ (∀ r, r < n → RE G G' j j2 r) ∧ (∀ q, q < k → ME G G' j j2 q) ∧ ∀ f, 3 ≤ f → f ≤ 9 → G' (sB j) f = G (sB j2) f
def rotP (pi : Nat → Nat) (L t : Nat) : Nat := if L = 4 then (if t < 3 then pi (t + 1) else pi 0) else pi t
def rotL (L : Nat) : Nat := if L = 4 then 3 else L
theorem rotL_lt {L : Nat} (h : L ≤ 4) : rotL L < 4 := by unfold rotL; split <;> omega
theorem rotP_all {pi : Nat → Nat} {L t : Nat} {Z : Nat → Prop} (h : ∀ t, t < 4 → Z (pi t)) (ht : t < 4) : Z (rotP pi L t) := by
  unfold rotP
  split
  · split
    · exact h _ (by omega)
    · exact h _ (by omega)
  · exact h _ ht
theorem CB_of {G G1 G2 : Nat → Nat → Int32} {j j2 n k : Nat} (h : CB G1 G2 j j2 n k) (e : ∀ o, o < 161 → G1 (sB j2 + o) = G (sB j2 + o)) (hn : n ≤ 40) (hk : k ≤ 40) : CB G G2 j j2 n k := by
  obtain ⟨h1, h2, h3, h4⟩ := h
  have eo : ∀ (q o : Nat), o < 161 → q = sB j2 + o → G1 q = G q := fun q o ho hq => by rw [hq]; exact e o ho
  refine ⟨fun c hc => ?_, fun r hr => ?_, fun q hq => ?_, fun f f1 f2 => ?_⟩
  · have := h1 c hc
    unfold CE at this ⊢
    rw [eo (cV j2 c) (6 + 3 * c) (by omega) (by unfold cV sB; omega), eo (cM j2 c) (7 + 3 * c) (by omega) (by unfold cM sB; omega), eo (cB j2 c) (5 + 3 * c) (by omega) (by unfold cB sB; omega)] at this
    exact this
  · have := h2 r hr
    unfold RE at this ⊢
    rw [eo (rW j2 r) (42 + 2 * r) (by omega) (by unfold rW sB; omega), eo (rN j2 r) (41 + 2 * r) (by omega) (by unfold rN sB; omega)] at this
    exact this
  · have := h3 q hq
    unfold ME at this ⊢
    rw [eo (mC j2 q) (121 + q) (by omega) (by unfold mC sB; omega)] at this
    exact this
  · have := h4 f f1 f2
    rw [eo (sB j2) 0 (by omega) (by omega)] at this
    exact this
theorem CB_to {G G1 G2 : Nat → Nat → Int32} {j j2 n k : Nat} (h : CB G G1 j j2 n k) (e : ∀ o, o < 161 → G2 (sB j + o) = G1 (sB j + o)) (hn : n ≤ 40) (hk : k ≤ 40) : CB G G2 j j2 n k := by
  obtain ⟨h1, h2, h3, h4⟩ := h
  have eo : ∀ (q o : Nat), o < 161 → q = sB j + o → G2 q = G1 q := fun q o ho hq => by rw [hq]; exact e o ho
  refine ⟨fun c hc => ?_, fun r hr => ?_, fun q hq => ?_, fun f f1 f2 => ?_⟩
  · exact CE_k (h1 c hc) ⟨eo (cB j c) (5 + 3 * c) (by omega) (by unfold cB sB; omega), eo (cV j c) (6 + 3 * c) (by omega) (by unfold cV sB; omega), eo (cM j c) (7 + 3 * c) (by omega) (by unfold cM sB; omega)⟩
  · exact RE_k (h2 r hr) (eo (rN j r) (41 + 2 * r) (by omega) (by unfold rN sB; omega)) (eo (rW j r) (42 + 2 * r) (by omega) (by unfold rW sB; omega))
  · exact ME_k (h3 q hq) (eo (mC j q) (121 + q) (by omega) (by unfold mC sB; omega))
  · rw [eo (sB j) 0 (by omega) (by omega)]
    exact h4 f f1 f2
theorem CPY_cb {G G' : Nat → Nat → Int32} {j j2 n k : Nat} (h : CPY G G' j j2 n k) : CB G G' j j2 n k := h.2
set_option maxHeartbeats 4000000 in
set_option maxRecDepth 100000 in
theorem c_X2_dropOldest (l : Launch) {D : va_G} {τ : Nat → ClassId} {ad : Nat → Nat} (hI : kInj ad) {G : Nat → Nat → Int32} {pi : Nat → Nat} (hpi : ∀ t, t < 4 → G 9 t = nI (pi t) ∧ pi t < 7) : kMv l yX2_dropOldest cX2_dropOldest 3 { frames := 0, cells := 0, slots := 0, locals := 0 } D τ ad [.ref (ad 8)] G (fun G' => (∀ k, k ≠ 8 → k ≠ 9 → G' k = G k) ∧ (∀ t, t < 4 → G' 9 t = nI (rotP pi 4 t)) ∧ G' 8 1 = nI 3) := by
  refine kMetV (own := RX2) (by decide) rfl (Nat.le_of_ble_eq_true rfl) ?_
  intro p9 e9 s9 m9 args9 below9 meth9 c9 Q9 X hx hb hP hS hret ls hl
  have hPs := hP
  have hl : lv_has ls 3 [(0, .ref (ad 8))] := hl
  refine lv_aload_n hx hb dX2_dropOldest_0 rfl (lv_at hl 0 rfl) ?_
  refine kget X hP oH g_X2_11 rfl dX2_dropOldest_1 ?_
  refine lv_iconst (v := nI 0) hx hb dX2_dropOldest_4 (by decide) ?_
  refine kaald X hP qH (by omega) (show _ = sB (pi 0) from congrArg sB (by rw [(hpi 0 (by omega)).1, nI_clamp (by have := (hpi 0 (by omega)).2; omega)])) dX2_dropOldest_5 ?_
  refine kast hx hb dX2_dropOldest_6 rfl hl (by decide) (kp_1_1 rfl) (fun ls hl => ?_)
  refine lv_iconst (v := nI 1) hx hb dX2_dropOldest_7 (by decide) ?_
  refine kist hx hb dX2_dropOldest_8 rfl hl (by decide) (kp_2_2 rfl) (fun ls hl => ?_)
  have lp_9 : ∀ (d : Nat) (i : Nat) (G1 : Nat → Nat → Int32) (H : Heap) (locs : List Loc) (ls : Array Slot), (4 - i) < d → (1 ≤ i ∧ i ≤ 4) → (∀ k, k ≠ 9 → G1 k = G k) → (∀ t, t < 4 → G1 9 t = nI (if t + 1 < i then pi (t + 1) else pi t)) → va_P D vwCl (kW τ ad G1) H → va_S (kAd ad) s9.heap H locs → lv_has ls 3 [(0, .ref (ad 8)), (1, .ref (ad (sB (pi 0)))), (2, .int (nI i))] → W p9 l e9 { frames := 0, cells := 0, slots := 0, locals := 0 } s9 m9 args9 below9 meth9 c9 H locs 0 0 Q9 (F0 m9 9 ls []) := by
    intro d
    induction d with
    | zero => exact fun _ _ _ _ _ hd => absurd hd (Nat.not_lt_zero _)
    | succ d ih_9 =>
      intro i G1 H locs ls hd iv_0 iv_1 iv_2 hP hS hl
      refine lv_iload_n hx hb dX2_dropOldest_9 rfl (lv_at hl 2 rfl) ?_
      refine lv_iconst (v := nI 4) hx hb dX2_dropOldest_10 (by decide) ?_
      first
        | refine kic_ge (tgt := 34) hx hb dX2_dropOldest_11 (by decide) (by with_reducible rfl) (by with_reducible rfl) (by omega) (by omega) (fun c_11 => ?_) (fun c_11 => ?_)
        | refine lv_icmp_ge (tgt := 34) hx hb dX2_dropOldest_11 (by decide) (fun c_11 => ?_) (fun c_11 => ?_)
      · skip
        refine lv_aload_n hx hb dX2_dropOldest_34 rfl (lv_at hl 0 rfl) ?_
        refine kget X hP oH g_X2_11 rfl dX2_dropOldest_35 ?_
        refine lv_iconst (v := nI 3) hx hb dX2_dropOldest_38 (by decide) ?_
        refine lv_aload_n hx hb dX2_dropOldest_39 rfl (lv_at hl 1 rfl) ?_
        refine kaast X hI hP hS (by omega) (hpi 0 (by omega)).2 dX2_dropOldest_40 (fun H locs hP hS => ?_)
        refine lv_aload_n hx hb dX2_dropOldest_41 rfl (lv_at hl 0 rfl) ?_
        refine lv_iconst (v := nI 3) hx hb dX2_dropOldest_42 (by decide) ?_
        refine kput X hI hP hS oH g_X2_18 (fun _ => rfl) rfl (fun _ => Nat.le_of_ble_eq_true rfl) rfl rfl dX2_dropOldest_43 (fun H locs hP hS => ?_)
        exact hret _ _ _ _ _ (by
            have ei : i = 4 := (by omega)
            rw [ei] at iv_2
            refine ⟨fun k h1 h2 => by rw [gs_other h1, gs_other h2]; exact iv_1 k h2, fun t ht => ?_, by simp [gs]⟩
            rw [gs_other (by omega), rotP, if_pos rfl]
            by_cases e : t = 3
            · subst e; simp [gs]
            · have q := iv_2 t ht
              rw [if_pos (by omega)] at q ⊢
              simp only [gs, e, and_false, if_false]; exact q) hP hS dX2_dropOldest_46
      · skip
        refine lv_aload_n hx hb dX2_dropOldest_14 rfl (lv_at hl 0 rfl) ?_
        refine kget X hP oH g_X2_11 rfl dX2_dropOldest_15 ?_
        refine lv_iload_n hx hb dX2_dropOldest_18 rfl (lv_at hl 2 rfl) ?_
        refine lv_iconst (v := nI 1) hx hb dX2_dropOldest_19 (by decide) ?_
        first
          | refine ksub hx hb dX2_dropOldest_20 (by with_reducible rfl) (by with_reducible rfl) (by omega) ?_
          | refine lv_isub hx hb dX2_dropOldest_20 ?_
        refine lv_aload_n hx hb dX2_dropOldest_21 rfl (lv_at hl 0 rfl) ?_
        refine kget X hP oH g_X2_11 rfl dX2_dropOldest_22 ?_
        refine lv_iload_n hx hb dX2_dropOldest_25 rfl (lv_at hl 2 rfl) ?_
        refine kaald X hP qH (by omega) (show _ = sB (pi i) from congrArg sB (by rw [iv_2 i (by omega), if_neg (by omega), nI_clamp (by have := (hpi i (by omega)).2; omega)])) dX2_dropOldest_26 ?_
        refine kaast X hI hP hS (by omega) (hpi i (by omega)).2 dX2_dropOldest_27 (fun H locs hP hS => ?_)
        first
          | refine kinc (q := 2) hx hb dX2_dropOldest_28 hl rfl (by decide) (kp_3_2 rfl) (fun ls hl => ?_)
          | refine kincG (q := 2) hx hb dX2_dropOldest_28 hl rfl (by decide) (kp_3_2 rfl) (fun ls hl => ?_)
        refine lv_goto (tgt := 9) hx hb dX2_dropOldest_31 (by decide) ?_
        exact ih_9 _ _ _ _ _ (by omega) (by omega) (fun k hk => by rw [gs_other hk]; exact iv_1 k hk) (fun t ht => by
                by_cases e : t = i - 1
                · rw [if_pos (by omega), e, show i - 1 + 1 = i by omega]; simp [gs]
                · have q := iv_2 t ht
                  simp only [gs, e, and_false, if_false]
                  rw [q]
                  by_cases z : t + 1 < i
                  · rw [if_pos z, if_pos (by omega)]
                  · rw [if_neg z, if_neg (by omega)]) hP hS (lv_sub hl [0,1,2] rfl)
  exact lp_9 _ 1 G _ _ _ (Nat.lt_succ_self _) (⟨Nat.le_refl _, by omega⟩) (fun _ _ => rfl) (fun t ht => by rw [if_neg (by omega)]; exact (hpi t ht).1) hP hS (lv_sub hl [0,1,2] rfl)

set_option maxHeartbeats 4000000 in
set_option maxRecDepth 100000 in
theorem c_X2_record (l : Launch) {D : va_G} {τ : Nat → ClassId} {ad : Nat → Nat} (hI : kInj ad) {G : Nat → Nat → Int32} {j n k L : Nat} {pi : Nat → Nat} (hj : j < 7) (hL : G 8 1 = nI L) (hL4 : L ≤ 4) (hpi : ∀ t, t < 4 → G 9 t = nI (pi t) ∧ pi t < 7) (hne : ∀ t, t < 4 → pi t ≠ j) (hn : G (sB j) 6 = nI n) (hn4 : n ≤ 40) (hk : G (sB j) 7 = nI k) (hk4 : k ≤ 40) (hz : ∀ r, r < n → G (rN j r) 8 = 0 ∨ G (rN j r) 8 = 1) (hy : G (sB j) 9 = 0 ∨ G (sB j) 9 = 1) : kMv l yX2_record cX2_record 2 { frames := 3, cells := 0, slots := 0, locals := 83 } D τ ad [.ref (ad 8), .ref (ad (sB j))] G (fun G' => G' 8 1 = nI (rotL L + 1) ∧ (∀ t, t < 4 → G' 9 t = nI (rotP pi L t)) ∧ (∀ q, q ≠ 8 → q ≠ 9 → (q < sB (rotP pi L (rotL L)) ∨ sB (rotP pi L (rotL L)) + 161 ≤ q) → G' q = G q) ∧ CB G G' (rotP pi L (rotL L)) j n k) := by
  refine kMetV (own := RX2) (by decide) rfl (Nat.le_of_ble_eq_true rfl) ?_
  intro p9 e9 s9 m9 args9 below9 meth9 c9 Q9 X hx hb hP hS hret ls hl
  have hPs := hP
  have hl : lv_has ls 2 [(0, .ref (ad 8)), (1, .ref (ad (sB j)))] := hl
  refine lv_aload_n hx hb dX2_record_0 rfl (lv_at hl 0 rfl) ?_
  refine kget X hP oH g_X2_18 (congrArg (fun z => some (Value.int z)) hL) dX2_record_1 ?_
  refine lv_iconst (v := nI 4) hx hb dX2_record_4 (by decide) ?_
  first
    | refine kic_lt (tgt := 12) hx hb dX2_record_5 (by decide) (by with_reducible rfl) (by with_reducible rfl) (by omega) (by omega) (fun c_5 => ?_) (fun c_5 => ?_)
    | refine lv_icmp_lt (tgt := 12) hx hb dX2_record_5 (by decide) (fun c_5 => ?_) (fun c_5 => ?_)
  · skip
    have hx1 : G 8 1 = nI (rotL L) := by rw [rotL, if_neg (by omega)]; exact hL
    have hx2 : ∀ t, t < 4 → G 9 t = nI (rotP pi L t) := fun t ht => by rw [rotP, if_neg (by omega)]; exact (hpi t ht).1
    have hx3 : ∀ q, 14 ≤ q → G q = G q := fun _ _ => rfl
    refine lv_aload_n hx hb dX2_record_12 rfl (lv_at hl 0 rfl) ?_
    refine kget X hP oH g_X2_11 rfl dX2_record_13 ?_
    refine lv_aload_n hx hb dX2_record_16 rfl (lv_at hl 0 rfl) ?_
    refine kget X hP oH g_X2_18 (congrArg (fun z => some (Value.int z)) hx1) dX2_record_17 ?_
    refine kaald X hP qH (rotL_lt hL4) (show _ = sB (rotP pi L (rotL L)) from congrArg sB (by rw [hx2 _ (rotL_lt hL4), nI_clamp (by have := rotP_all (L := L) (Z := fun q => q < 7) (fun t ht => (hpi t ht).2) (rotL_lt hL4); omega)])) dX2_record_20 ?_
    refine lv_aload_n hx hb dX2_record_21 rfl (lv_at hl 1 rfl) ?_
    refine kcVv X hP hS (c_X4_copyFrom l hI (n := n) (k := k) (rotP_all (Z := fun q => q < 7) (fun t ht => (hpi t ht).2) (rotL_lt hL4)) hj (rotP_all (Z := fun q => q ≠ j) hne (rotL_lt hL4)) (by rw [hx3 _ (by unfold sB; omega)]; exact hn) hn4 (by rw [hx3 _ (by unfold sB; omega)]; exact hk) hk4 (fun r hr => by rw [hx3 _ (by unfold rN; omega)]; exact hz r hr) (by rw [hx3 _ (by unfold sB; omega)]; exact hy)) (oS (rotP_all (Z := fun q => q < 7) (fun t ht => (hpi t ht).2) (rotL_lt hL4))) v_X2_25 ⟨Nat.le_of_ble_eq_true rfl, Nat.le_of_ble_eq_true rfl, rfl, rfl⟩ rfl rfl (Nat.le_of_ble_eq_true rfl) hl.1 ⟨Nat.zero_le _, Nat.zero_le _⟩ dX2_record_22 (fun G_22 H locs hR hP hS => ?_)
    have h_22 := hR
    refine lv_aload_n hx hb dX2_record_25 rfl (lv_at hl 0 rfl) ?_
    refine lv_dup hx hb dX2_record_26 rfl ?_
    refine kget X hP oH g_X2_18 (congrArg (fun z => some (Value.int z)) (show _ = nI (rotL L) from (h_22.1 8 (by unfold sB; omega) ▸ hx1 : _ = nI (rotL L)))) dX2_record_27 ?_
    refine lv_iconst (v := nI 1) hx hb dX2_record_30 (by decide) ?_
    first
      | refine kadd hx hb dX2_record_31 (by with_reducible rfl) (by with_reducible rfl) ?_
      | refine lv_iadd hx hb dX2_record_31 ?_
    refine kput X hI hP hS oH g_X2_18 (fun _ => rfl) rfl (fun _ => Nat.le_of_ble_eq_true rfl) rfl rfl dX2_record_32 (fun H locs hP hS => ?_)
    exact hret _ _ _ _ _ (by
        refine ⟨by simp [gs], fun t ht => ?_, fun q h1 h2 h3 => ?_, ?_⟩
        · rw [gs_other (by omega), h_22.1 9 (by unfold sB; omega)]; exact hx2 t ht
        · exact (gs_other h1).trans ((h_22.1 q h3).trans (by first | rfl | exact h_9.1 q h1 h2))
        · exact CB_to (CB_of (CPY_cb h_22) (fun o ho => hx3 _ (by unfold sB; omega)) hn4 hk4) (fun o ho => gs_other (by unfold sB; omega)) hn4 hk4) hP hS dX2_record_35
  · skip
    skip
    refine lv_aload_n hx hb dX2_record_8 rfl (lv_at hl 0 rfl) ?_
    refine kcVv X hP hS (c_X2_dropOldest l hI hpi) oH v_X2_22 ⟨Nat.le_of_ble_eq_true rfl, Nat.le_of_ble_eq_true rfl, rfl, rfl⟩ rfl rfl (Nat.le_of_ble_eq_true rfl) hl.1 ⟨Nat.zero_le _, Nat.zero_le _⟩ dX2_record_9 (fun G_9 H locs hR hP hS => ?_)
    have h_9 := hR
    have hx1 : G_9 8 1 = nI (rotL L) := by rw [rotL, if_pos (by omega)]; exact h_9.2.2
    have hx2 : ∀ t, t < 4 → G_9 9 t = nI (rotP pi L t) := fun t ht => by rw [show L = 4 by omega]; exact h_9.2.1 t ht
    have hx3 : ∀ q, 14 ≤ q → G_9 q = G q := fun q hq => h_9.1 q (by omega) (by omega)
    refine lv_aload_n hx hb dX2_record_12 rfl (lv_at hl 0 rfl) ?_
    refine kget X hP oH g_X2_11 rfl dX2_record_13 ?_
    refine lv_aload_n hx hb dX2_record_16 rfl (lv_at hl 0 rfl) ?_
    refine kget X hP oH g_X2_18 (congrArg (fun z => some (Value.int z)) hx1) dX2_record_17 ?_
    refine kaald X hP qH (rotL_lt hL4) (show _ = sB (rotP pi L (rotL L)) from congrArg sB (by rw [hx2 _ (rotL_lt hL4), nI_clamp (by have := rotP_all (L := L) (Z := fun q => q < 7) (fun t ht => (hpi t ht).2) (rotL_lt hL4); omega)])) dX2_record_20 ?_
    refine lv_aload_n hx hb dX2_record_21 rfl (lv_at hl 1 rfl) ?_
    refine kcVv X hP hS (c_X4_copyFrom l hI (n := n) (k := k) (rotP_all (Z := fun q => q < 7) (fun t ht => (hpi t ht).2) (rotL_lt hL4)) hj (rotP_all (Z := fun q => q ≠ j) hne (rotL_lt hL4)) (by rw [hx3 _ (by unfold sB; omega)]; exact hn) hn4 (by rw [hx3 _ (by unfold sB; omega)]; exact hk) hk4 (fun r hr => by rw [hx3 _ (by unfold rN; omega)]; exact hz r hr) (by rw [hx3 _ (by unfold sB; omega)]; exact hy)) (oS (rotP_all (Z := fun q => q < 7) (fun t ht => (hpi t ht).2) (rotL_lt hL4))) v_X2_25 ⟨Nat.le_of_ble_eq_true rfl, Nat.le_of_ble_eq_true rfl, rfl, rfl⟩ rfl rfl (Nat.le_of_ble_eq_true rfl) hl.1 ⟨Nat.zero_le _, Nat.zero_le _⟩ dX2_record_22 (fun G_22 H locs hR hP hS => ?_)
    have h_22 := hR
    refine lv_aload_n hx hb dX2_record_25 rfl (lv_at hl 0 rfl) ?_
    refine lv_dup hx hb dX2_record_26 rfl ?_
    refine kget X hP oH g_X2_18 (congrArg (fun z => some (Value.int z)) (show _ = nI (rotL L) from (h_22.1 8 (by unfold sB; omega) ▸ hx1 : _ = nI (rotL L)))) dX2_record_27 ?_
    refine lv_iconst (v := nI 1) hx hb dX2_record_30 (by decide) ?_
    first
      | refine kadd hx hb dX2_record_31 (by with_reducible rfl) (by with_reducible rfl) ?_
      | refine lv_iadd hx hb dX2_record_31 ?_
    refine kput X hI hP hS oH g_X2_18 (fun _ => rfl) rfl (fun _ => Nat.le_of_ble_eq_true rfl) rfl rfl dX2_record_32 (fun H locs hP hS => ?_)
    exact hret _ _ _ _ _ (by
        refine ⟨by simp [gs], fun t ht => ?_, fun q h1 h2 h3 => ?_, ?_⟩
        · rw [gs_other (by omega), h_22.1 9 (by unfold sB; omega)]; exact hx2 t ht
        · exact (gs_other h1).trans ((h_22.1 q h3).trans (by first | rfl | exact h_9.1 q h1 h2))
        · exact CB_to (CB_of (CPY_cb h_22) (fun o ho => hx3 _ (by unfold sB; omega)) hn4 hk4) (fun o ho => gs_other (by unfold sB; omega)) hn4 hk4) hP hS dX2_record_35

set_option maxHeartbeats 4000000 in
set_option maxRecDepth 100000 in
theorem c_X2_bringBack (l : Launch) {D : va_G} {τ : Nat → ClassId} {ad : Nat → Nat} (hI : kInj ad) {G : Nat → Nat → Int32} {j n k L : Nat} {pi : Nat → Nat} (hj : j < 7) (hL : G 8 1 = nI L) (hL1 : 1 ≤ L) (hL4 : L ≤ 4) (hpi : ∀ t, t < 4 → G 9 t = nI (pi t) ∧ pi t < 7) (hne : j ≠ pi (L - 1)) (hn : G (sB (pi (L - 1))) 6 = nI n) (hn4 : n ≤ 40) (hk : G (sB (pi (L - 1))) 7 = nI k) (hk4 : k ≤ 40) (hz : ∀ r, r < n → G (rN (pi (L - 1)) r) 8 = 0 ∨ G (rN (pi (L - 1)) r) 8 = 1) (hy : G (sB (pi (L - 1))) 9 = 0 ∨ G (sB (pi (L - 1))) 9 = 1) : kMv l yX2_bringBack cX2_bringBack 2 { frames := 3, cells := 0, slots := 0, locals := 83 } D τ ad [.ref (ad 8), .ref (ad (sB j))] G (fun G' => G' 8 1 = nI (L - 1) ∧ (∀ q, q ≠ 8 → (q < sB j ∨ sB j + 161 ≤ q) → G' q = G q) ∧ CB G G' j (pi (L - 1)) n k) := by
  refine kMetV (own := RX2) (by decide) rfl (Nat.le_of_ble_eq_true rfl) ?_
  intro p9 e9 s9 m9 args9 below9 meth9 c9 Q9 X hx hb hP hS hret ls hl
  have hPs := hP
  have hl : lv_has ls 2 [(0, .ref (ad 8)), (1, .ref (ad (sB j)))] := hl
  refine lv_aload_n hx hb dX2_bringBack_0 rfl (lv_at hl 0 rfl) ?_
  refine kget X hP oH g_X2_18 (congrArg (fun z => some (Value.int z)) hL) dX2_bringBack_1 ?_
  refine lv_if_le (tgt := 30) hx hb dX2_bringBack_4 (by decide) (fun c_4 => ?_) (fun c_4 => ?_)
  · skip
    exact absurd c_4 (nI_nle (by omega) (by omega))
  · skip
    refine lv_aload_n hx hb dX2_bringBack_7 rfl (lv_at hl 0 rfl) ?_
    refine lv_dup hx hb dX2_bringBack_8 rfl ?_
    refine kget X hP oH g_X2_18 (congrArg (fun z => some (Value.int z)) hL) dX2_bringBack_9 ?_
    refine lv_iconst (v := nI 1) hx hb dX2_bringBack_12 (by decide) ?_
    first
      | refine ksub hx hb dX2_bringBack_13 (by with_reducible rfl) (by with_reducible rfl) (by omega) ?_
      | refine lv_isub hx hb dX2_bringBack_13 ?_
    refine kput X hI hP hS oH g_X2_18 (fun _ => rfl) rfl (fun _ => Nat.le_of_ble_eq_true rfl) rfl rfl dX2_bringBack_14 (fun H locs hP hS => ?_)
    refine lv_aload_n hx hb dX2_bringBack_17 rfl (lv_at hl 1 rfl) ?_
    refine lv_aload_n hx hb dX2_bringBack_18 rfl (lv_at hl 0 rfl) ?_
    refine kget X hP oH g_X2_11 rfl dX2_bringBack_19 ?_
    refine lv_aload_n hx hb dX2_bringBack_22 rfl (lv_at hl 0 rfl) ?_
    refine kget X hP oH g_X2_18 (congrArg (fun z => some (Value.int z)) (by simp [gs] : _ = nI (L - 1))) dX2_bringBack_23 ?_
    refine kaald X hP qH (by omega) (show _ = sB (pi (L - 1)) from congrArg sB (by rw [gs_other (by omega), (hpi (L - 1) (by omega)).1, nI_clamp (by have := (hpi (L - 1) (by omega)).2; omega)])) dX2_bringBack_26 ?_
    refine kcVv X hP hS (c_X4_copyFrom l hI (n := n) (k := k) hj (hpi (L - 1) (by omega)).2 hne (by rw [gs_other (by unfold sB; omega)]; exact hn) hn4 (by rw [gs_other (by unfold sB; omega)]; exact hk) hk4 (fun r hr => by rw [gs_other (by unfold rN; omega)]; exact hz r hr) (by rw [gs_other (by unfold sB; omega)]; exact hy)) (oS hj) v_X2_25 ⟨Nat.le_of_ble_eq_true rfl, Nat.le_of_ble_eq_true rfl, rfl, rfl⟩ rfl rfl (Nat.le_of_ble_eq_true rfl) hl.1 ⟨Nat.zero_le _, Nat.zero_le _⟩ dX2_bringBack_27 (fun G_27 H locs hR hP hS => ?_)
    have h_27 := hR
    exact hret _ _ _ _ _ (by
        refine ⟨by rw [h_27.1 8 (by unfold sB; omega)]; simp [gs], fun q h1 h2 => by rw [h_27.1 q h2]; exact gs_other h1, CB_of (CPY_cb h_27) (fun o ho => gs_other (by unfold sB; omega)) hn4 hk4⟩) hP hS dX2_bringBack_30
end
section

theorem and_1 {x : Int32} : x &&& nI 1 = nI 1 ↔ ¬ (x &&& nI 1 = 0) := by
  constructor
  · intro h q; rw [h] at q; exact absurd q (by decide)
  · intro h
    obtain ⟨j, h1, h2⟩ := pk_andE x (m := nI 1) 1 (by decide)
    rw [h2] at h ⊢
    rcases (show j = 0 ∨ j = 1 by omega) with rfl | rfl
    · exact absurd rfl h
    · rfl
/-- the reference's table of versions: the row with the greatest moment that is not greater than y -/
def vaS (N : Nat → Int32) (x y : Int32) : Nat → Nat × Int32
  | 0 => (0, -1)
  | v + 1 => if N (809 + 3 * v + 0) = x ∧ N (809 + 3 * v + 1) ≤ y ∧ (vaS N x y v).2 < N (809 + 3 * v + 1) then (v, N (809 + 3 * v + 1)) else vaS N x y v
theorem vaS_le (N : Nat → Int32) (x y : Int32) (W : Nat) : (vaS N x y W).1 ≤ W := by
  induction W with
  | zero => exact Nat.le_refl _
  | succ W ih =>
    rw [vaS]
    split
    · exact Nat.le_succ _
    · omega
theorem vaS_lt (N : Nat → Int32) (x y : Int32) (W : Nat) (h : 0 < W) : (vaS N x y W).1 < W := by
  induction W with
  | zero => omega
  | succ W ih =>
    rw [vaS]
    split
    · exact Nat.lt_succ_self _
    · have := vaS_le N x y W; omega
theorem vaS_p {N : Nat → Int32} {x y : Int32} {v a : Nat} {b : Int32} (h : (a, b) = vaS N x y v) (h1 : N (809 + 3 * v + 0) = x) (h2 : N (809 + 3 * v + 1) ≤ y) (h3 : b < N (809 + 3 * v + 1)) : (v, N (809 + 3 * v + 1)) = vaS N x y (v + 1) := by
  rw [vaS, ← h, if_pos ⟨h1, h2, h3⟩]
theorem vaS_z {N : Nat → Int32} {x y : Int32} {v a : Nat} {b : Int32} (h : (a, b) = vaS N x y v) (h1 : ¬ (N (809 + 3 * v + 0) = x ∧ N (809 + 3 * v + 1) ≤ y ∧ b < N (809 + 3 * v + 1))) : (a, b) = vaS N x y (v + 1) := by
  rw [vaS, ← h, if_neg h1]
def vA (N : Nat → Int32) (W : Nat) (x y : Int32) : Nat := (vaS N x y W).1
theorem vA_lt {N : Nat → Int32} {W : Nat} {x y : Int32} (h : 0 < W) : vA N W x y < W := vaS_lt N x y W h
/-- who sees, of the reference -/
abbrev seM (N : Nat → Int32) (W r v : Nat) : Prop := N (9 + 20 * r + 2) = 0 ∧ vA N W (N (809 + 3 * v + 0)) (N (9 + 20 * r + 0)) = v
def sbM (N : Nat → Int32) (W v : Nat) (w : Int32) : Nat → Nat := fun r => if seM N W r v ∧ (¬ w = 0 ∨ ¬ 0 < N (9 + 20 * r + 5)) then 1 else 0
def reM (N : Nat → Int32) (W n v : Nat) : Int32 := if nI (cn (sbM N W v (nI 0)) n) = 0 then nI 0 else (N 4 + nI (cn (sbM N W v (nI 0)) n) - nI 1) / nI (cn (sbM N W v (nI 0)) n)
abbrev olM (N : Nat → Int32) (W v : Nat) : Prop := vA N W (N (809 + 3 * v + 0)) (N 0) ≠ v
def duM (N : Nat → Int32) (W n r : Nat) : Nat → Int32 := fun v => if olM N W v ∧ seM N W r v then reM N W n v else nI 0
def dueM (N : Nat → Int32) (W n r : Nat) : Int32 := if N (9 + 20 * r + 2) = 0 ∧ ¬ 0 < N (9 + 20 * r + 5) then sm (duM N W n r) W else nI 0
abbrev skM (a b c d : Int32) : Prop := ¬ (b &&& c = 0) ∧ ¬ (d &&& a = 0) ∧ a &&& c = 0
def ssM (N : Nat → Int32) (r : Nat) : Nat → Nat := fun c => if (N (9 + 20 * r + 0) < N (1001 + 5 * c + 2) ∧ N (1001 + 5 * c + 1) < N 0 + nI 1) ∧ skM (N (9 + 20 * r + 4)) (N (9 + 20 * r + 3)) (N (1001 + 5 * c + 3)) (N (1001 + 5 * c + 4)) then 1 else 0
def swM (N : Nat → Int32) (q : Nat) : Nat → Nat := fun c => if (N (1001 + 5 * q + 1) < N (1001 + 5 * c + 2) ∧ N (1001 + 5 * c + 1) < N (1001 + 5 * q + 2)) ∧ skM (N (1001 + 5 * q + 3)) (N (1001 + 5 * q + 4)) (N (1001 + 5 * c + 3)) (N (1001 + 5 * c + 4)) then 1 else 0
def cfM (N : Nat → Int32) (W r : Nat) : Nat → Nat := fun c => if hw (N (9 + 20 * r + 4)) c ∧ N (9 + 20 * r + 0) < N (809 + 3 * vA N W (nI c) (N 0) + 1) then 1 else 0
def snM (N : Nat → Int32) (W r : Nat) (w : Int32) : Nat → Int32 := fun c => if w = 0 then N (809 + 3 * vA N W (nI c) (N (9 + 20 * r + 0)) + 2) else if olM N W (vA N W (nI c) (N (9 + 20 * r + 0))) then nI 1 else nI 0

def kpF (G : Nat → Nat → Int32) (c i : Nat) : Nat → Nat → Int32 := fun k f => if k = 2 ∧ c * 1201 ≤ f ∧ f < c * 1201 + i then G 1 (f - c * 1201) else G k f
def brF (G : Nat → Nat → Int32) (c i : Nat) : Nat → Nat → Int32 := fun k f => if k = 1 ∧ f < i then G 2 (c * 1201 + f) else G k f
def shF2 (G : Nat → Nat → Int32) (i : Nat) : Nat → Nat → Int32 := fun k f => if k = 2 ∧ f < i then G 2 (f + 1201) else G k f
theorem kpF_0 (G : Nat → Nat → Int32) (c : Nat) : kpF G c 0 = G := by
  funext k f
  unfold kpF
  rw [if_neg (by omega)]
theorem brF_0 (G : Nat → Nat → Int32) (c : Nat) : brF G c 0 = G := by
  funext k f
  unfold brF
  rw [if_neg (by omega)]
theorem shF2_0 (G : Nat → Nat → Int32) : shF2 G 0 = G := by
  funext k f
  unfold shF2
  rw [if_neg (by omega)]
theorem kpF_s (G : Nat → Nat → Int32) (c i : Nat) : gs (kpF G c i) 2 (c * 1201 + i) (kpF G c i 1 i) = kpF G c (i + 1) := by
  funext k f
  have e : kpF G c i 1 i = G 1 i := by unfold kpF; rw [if_neg (by omega)]
  rw [e]
  unfold gs kpF
  by_cases h : k = 2 ∧ f = c * 1201 + i
  · rw [if_pos h, if_pos (by omega), show f - c * 1201 = i by omega]
  · rw [if_neg h]
    by_cases h2 : k = 2 ∧ c * 1201 ≤ f ∧ f < c * 1201 + i
    · rw [if_pos h2, if_pos (by omega)]
    · rw [if_neg h2, if_neg (by omega)]
theorem brF_s (G : Nat → Nat → Int32) (c i : Nat) : gs (brF G c i) 1 i (brF G c i 2 (c * 1201 + i)) = brF G c (i + 1) := by
  funext k f
  have e : brF G c i 2 (c * 1201 + i) = G 2 (c * 1201 + i) := by unfold brF; rw [if_neg (by omega)]
  rw [e]
  unfold gs brF
  by_cases h : k = 1 ∧ f = i
  · rw [if_pos h, if_pos (by omega), h.2]
  · rw [if_neg h]
    by_cases h2 : k = 1 ∧ f < i
    · rw [if_pos h2, if_pos (by omega)]
    · rw [if_neg h2, if_neg (by omega)]
theorem shF2_s (G : Nat → Nat → Int32) (i : Nat) : gs (shF2 G i) 2 i (shF2 G i 2 (i + 1201)) = shF2 G (i + 1) := by
  funext k f
  have e : shF2 G i 2 (i + 1201) = G 2 (i + 1201) := by unfold shF2; rw [if_neg (by omega)]
  rw [e]
  unfold gs shF2
  by_cases h : k = 2 ∧ f = i
  · rw [if_pos h, if_pos (by omega), h.2]
  · rw [if_neg h]
    by_cases h2 : k = 2 ∧ f < i
    · rw [if_pos h2, if_pos (by omega)]
    · rw [if_neg h2, if_neg (by omega)]
/-- the history of the reference, with one more state -/
def recM (G : Nat → Nat → Int32) (L : Nat) : Nat → Nat → Int32 := gs (kpF (if L = 4 then gs (shF2 G 3603) 0 2 (nI 3) else G) (rotL L) 1201) 0 2 (nI (rotL L + 1))
def rw1 (G : Nat → Nat → Int32) (N : Nat → Int32) : Nat → Nat → Int32 := fun k f => if k = 1 then N f else G k f
theorem rw1_1 (G : Nat → Nat → Int32) (N : Nat → Int32) : rw1 G N 1 = N := by funext f; simp [rw1]
theorem rw1_o {G : Nat → Nat → Int32} {N : Nat → Int32} {k : Nat} (h : k ≠ 1) : rw1 G N k = G k := by funext f; simp [rw1, h]
theorem rw1_s (G : Nat → Nat → Int32) (N : Nat → Int32) (f : Nat) (x : Int32) : gs (rw1 G N) 1 f x = rw1 G (upd N f x) := by
  funext k g
  by_cases h : k = 1
  · subst h
    by_cases h2 : g = f <;> simp [gs, rw1, upd, h2]
  · simp [gs, rw1, h]
theorem rw1_id (G : Nat → Nat → Int32) : rw1 G (G 1) = G := by
  funext k f
  by_cases h : k = 1
  · subst h; simp [rw1]
  · simp [rw1, h]

/-- the table without its row v, while it is moved: kk ints are done -/
def shK (N : Nat → Int32) (V v kk : Nat) : Nat → Int32 := fun f => if f = 8 then nI (V - 1) else if 809 + 3 * v ≤ f ∧ f < 809 + kk then N (f + 3) else N f
theorem shK_0 (N : Nat → Int32) (V v : Nat) : upd N 8 (nI (V - 1)) = shK N V v (3 * v) := by
  funext f
  unfold upd shK
  by_cases h : f = 8
  · rw [if_pos h, if_pos h]
  · rw [if_neg h, if_neg h, if_neg (by omega)]
theorem shK_s {N : Nat → Int32} {V v kk : Nat} (h : 3 * v ≤ kk) : upd (shK N V v kk) (809 + kk) (shK N V v kk (809 + kk + 3)) = shK N V v (kk + 1) := by
  funext f
  have e : shK N V v kk (809 + kk + 3) = N (809 + kk + 3) := by unfold shK; rw [if_neg (by omega), if_neg (by omega)]
  rw [e]
  unfold upd shK
  by_cases h8 : f = 8
  · rw [if_neg (by omega), if_pos h8, if_pos h8]
  · rw [if_neg h8, if_neg h8]
    by_cases h1 : f = 809 + kk
    · rw [if_pos h1, if_pos (by omega), h1]
    · rw [if_neg h1]
      by_cases h2 : 809 + 3 * v ≤ f ∧ f < 809 + kk
      · rw [if_pos h2, if_pos (by omega)]
      · rw [if_neg h2, if_neg (by omega)]
def rmS (n : Nat) (s : (Nat → Int32) × Nat × Nat) (v : Nat) : (Nat → Int32) × Nat × Nat :=
  if olM s.1 s.2.1 v ∧ nI (cn (sbM s.1 s.2.1 v (nI 1)) n) = 0 then (shK s.1 s.2.1 v (3 * (s.2.1 - 1)), s.2.1 - 1, s.2.2 + 1) else s
/-- the rows from the last on, d of them -/
def rmD (N : Nat → Int32) (n V0 : Nat) : Nat → (Nat → Int32) × Nat × Nat
  | 0 => (N, V0, 0)
  | d + 1 => rmS n (rmD N n V0 d) (V0 - 1 - d)
theorem rmS_z {n : Nat} {N : Nat → Int32} {V c v : Nat} (h : ¬ (olM N V v ∧ nI (cn (sbM N V v (nI 1)) n) = 0)) : rmS n (N, V, c) v = (N, V, c) := if_neg h
theorem rmS_p {n : Nat} {N : Nat → Int32} {V c v : Nat} (h : olM N V v ∧ nI (cn (sbM N V v (nI 1)) n) = 0) : rmS n (N, V, c) v = (shK N V v (3 * (V - 1)), V - 1, c + 1) := if_pos h
theorem rmD_s {N N1 : Nat → Int32} {n V0 V1 c v : Nat} {s : (Nat → Int32) × Nat × Nat} (h : (N1, V1, c) = rmD N n V0 (V0 - (v + 1))) (hv : v + 1 ≤ V0) (hs : rmS n (N1, V1, c) v = s) : s = rmD N n V0 (V0 - v) := by
  rw [show V0 - v = (V0 - (v + 1)) + 1 by omega, rmD, ← h, show V0 - 1 - (V0 - (v + 1)) = v by omega, hs]
/-- all that removes() does -/
def rmN (N : Nat → Int32) (n V : Nat) : Nat → Int32 := upd (rmD N n V V).1 3 ((rmD N n V V).1 3 + nI (rmD N n V V).2.2)
/-- a tick's payments, of one reader -/
def pyS (d : Nat → Int32) (s : (Nat → Int32) × Nat) (r : Nat) : (Nat → Int32) × Nat :=
  if s.1 (9 + 20 * r + 2) = 0 ∧ ¬ 0 < s.1 (9 + 20 * r + 5) then
    (if d r ≤ s.1 (9 + 20 * r + 1) then (upd (upd (upd s.1 (9 + 20 * r + 1) (s.1 (9 + 20 * r + 1) - d r)) (9 + 20 * r + 7) (s.1 (9 + 20 * r + 7) + d r)) 5 (s.1 5 + d r), s.2)
     else (upd s.1 (9 + 20 * r + 2) (nI 3), s.2 + 1))
  else if s.1 (9 + 20 * r + 2) = 0 then (upd s.1 (9 + 20 * r + 5) (s.1 (9 + 20 * r + 5) - nI 1), s.2) else s
def pyA (N d : Nat → Int32) : Nat → (Nat → Int32) × Nat
  | 0 => (N, 0)
  | r + 1 => pyS d (pyA N d r) r
theorem pyA_s {N d N1 : Nat → Int32} {c r : Nat} {s : (Nat → Int32) × Nat} (h : (N1, c) = pyA N d r) (hs : pyS d (N1, c) r = s) : s = pyA N d (r + 1) := by rw [pyA, ← h, hs]
def duR (G : Nat → Nat → Int32) (V n i : Nat) : Nat → Nat → Int32 := fun k f => if k = 6 ∧ f < i then dueM (G 1) V n f else G k f
theorem duR_0 (G : Nat → Nat → Int32) (V n : Nat) : duR G V n 0 = G := by
  funext k f
  unfold duR
  rw [if_neg (by omega)]
theorem duR_1 (G : Nat → Nat → Int32) (V n i : Nat) : duR G V n i 1 = G 1 := by
  funext f
  unfold duR
  rw [if_neg (by omega)]
theorem duR_s (G : Nat → Nat → Int32) (V n i : Nat) : gs (duR G V n i) 6 i (dueM (G 1) V n i) = duR G V n (i + 1) := by
  funext k f
  unfold gs duR
  by_cases h : k = 6 ∧ f = i
  · rw [if_pos h, if_pos (by omega), h.2]
  · rw [if_neg h]
    by_cases h2 : k = 6 ∧ f < i
    · rw [if_pos h2, if_pos (by omega)]
    · rw [if_neg h2, if_neg (by omega)]
theorem duR_6 {G : Nat → Nat → Int32} {V n i : Nat} (N : Nat → Int32) (h : i < n) : rw1 (duR G V n n) N 6 i = dueM (G 1) V n i := by
  unfold rw1 duR
  rw [if_neg (by omega), if_pos ⟨rfl, h⟩]
def paidN (N : Nat → Int32) (V n : Nat) : Nat → Int32 := (pyA N (dueM N V n) n).1
/-- all that passes() does to the row of numbers -/
def tkN (N : Nat → Int32) (V n : Nat) : Nat → Int32 := upd (rmN (paidN N V n) n V) 1 (rmN (paidN N V n) n V 1 + nI 1)
theorem pyS_lo (d : Nat → Int32) (s : (Nat → Int32) × Nat) (r f : Nat) (hf : f ≠ 5) (hf2 : f < 9 + 20 * r + 1 ∨ 9 + 20 * r + 7 < f) : (pyS d s r).1 f = s.1 f := by
  unfold pyS
  split
  · split
    · show upd (upd (upd _ _ _) _ _) _ _ f = _
      unfold upd
      rw [if_neg hf, if_neg (by omega), if_neg (by omega)]
    · show upd _ _ _ f = _
      unfold upd
      rw [if_neg (by omega)]
  · split
    · show upd _ _ _ f = _
      unfold upd
      rw [if_neg (by omega)]
    · rfl
theorem pyA_lo (N d : Nat → Int32) (n f : Nat) (hn : n ≤ 40) (hf : f ≠ 5) (hf2 : f < 9 ∨ 809 ≤ f) : (pyA N d n).1 f = N f := by
  induction n with
  | zero => rfl
  | succ n ih => rw [pyA, pyS_lo _ _ _ _ hf (by omega), ih (by omega)]

theorem rw1_rw1 (G : Nat → Nat → Int32) (N M : Nat → Int32) : rw1 (rw1 G N) M = rw1 G M := by
  funext k f
  unfold rw1
  by_cases h : k = 1
  · rw [if_pos h, if_pos h]
  · rw [if_neg h, if_neg h, if_neg h]

theorem upd_ne {N : Nat → Int32} {k f : Nat} {x : Int32} (h : f ≠ k) : upd N k x f = N f := if_neg h
theorem upd_eq {N : Nat → Int32} {k : Nat} {x : Int32} : upd N k x k = x := if_pos rfl
def chN (N : Nat → Int32) (r k mm : Nat) : Nat → Int32 := upd (upd (upd (upd (upd (upd (upd N 0 (nI (mm + 1))) (1001 + 5 * k) (nI r)) (1001 + 5 * k + 1) (N (9 + 20 * r + 0))) (1001 + 5 * k + 2) (nI (mm + 1))) (1001 + 5 * k + 3) (N (9 + 20 * r + 4))) (1001 + 5 * k + 4) (N (9 + 20 * r + 3))) 6 (nI (k + 1))
theorem chN_lo {N : Nat → Int32} {r k mm f : Nat} (h : f ≠ 0 ∧ f ≠ 6 ∧ f < 1001) : chN N r k mm f = N f := by
  unfold chN
  rw [upd_ne (by omega), upd_ne (by omega), upd_ne (by omega), upd_ne (by omega), upd_ne (by omega), upd_ne (by omega), upd_ne (by omega)]
def caS (N : Nat → Int32) (r mm : Nat) (s : (Nat → Int32) × Nat) (c : Nat) : (Nat → Int32) × Nat :=
  if hw (N (9 + 20 * r + 4)) c then (upd (upd (upd (upd s.1 (809 + 3 * s.2) (nI c)) (809 + 3 * s.2 + 1) (nI (mm + 1))) (809 + 3 * s.2 + 2) (N (9 + 20 * r + (8 + c)))) 8 (nI (s.2 + 1)), s.2 + 1) else s
def caA (N : Nat → Int32) (r k mm V : Nat) : Nat → (Nat → Int32) × Nat
  | 0 => (chN N r k mm, V)
  | c + 1 => caS N r mm (caA N r k mm V c) c
theorem caA_s {N N1 : Nat → Int32} {r k mm V V1 c : Nat} {s : (Nat → Int32) × Nat} (h : (N1, V1) = caA N r k mm V c) (hs : caS N r mm (N1, V1) c = s) : s = caA N r k mm V (c + 1) := by rw [caA, ← h, hs]
/-- all that commits() does -/
def coN (N : Nat → Int32) (r k mm V : Nat) : Nat → Int32 := (caA N r k mm V 12).1

/-- an argument that is one of n numbers, or none -/
def rdP (n : Nat) (x : Int32) (miss : Prop) (hit : Nat → Prop) : Prop := (∀ r, r < n → x = nI r → hit r) ∧ ((∀ r, r < n → ¬ x = nI r) → miss)
theorem rdP_m {n : Nat} {x : Int32} {miss : Prop} {hit : Nat → Prop} (h : ∀ r, r < n → ¬ x = nI r) (m : miss) : rdP n x miss hit := ⟨fun r hr e => absurd e (h r hr), fun _ => m⟩
theorem rdP_h {n r : Nat} {miss : Prop} {hit : Nat → Prop} (hr : r < n) (hn : n ≤ 40) (m : hit r) : rdP n (nI r) miss hit := ⟨fun q hq e => by
  rw [show q = r from ((nI_eq (by omega) (by omega)).mp e).symm]; exact m, fun h => absurd rfl (h r hr)⟩
theorem isR_yes {n : Nat} {x : Int32} (hn : n ≤ 40) (h : nI 0 ≤ x ∧ x ≤ nI n - nI 1) : ∃ r, r < n ∧ x = nI r := by
  obtain ⟨h1, h2⟩ := h
  rcases Nat.eq_zero_or_pos n with rfl | hp
  · exact absurd (Int32.le_trans h1 h2) (by decide)
  · rw [pk_sub hp] at h2
    obtain ⟨q, q1, q2⟩ := nI_of2 (x := x) (M := nI (n - 1)) (n := n - 1) (nI_toInt (by omega)) (Int32.not_lt.mpr h1) h2
    exact ⟨q, by omega, q2⟩
theorem isR_no {n : Nat} {x : Int32} (hn : n ≤ 40) (h : ¬ (nI 0 ≤ x ∧ x ≤ nI n - nI 1)) : ∀ r, r < n → ¬ x = nI r := by
  intro r hr e
  apply h
  rw [e, pk_sub (by omega)]
  exact ⟨nI_le (by omega) (by omega), nI_le (by omega) (by omega)⟩
theorem isC_yes {x : Int32} (h : nI 0 ≤ x ∧ x ≤ nI 11) : ∃ c, c < 12 ∧ x = nI c := isR_yes (n := 12) (by omega) (by rw [pk_sub (by omega)]; exact h)
theorem isC_no {x : Int32} (h : ¬ (nI 0 ≤ x ∧ x ≤ nI 11)) : ∀ c, c < 12 → ¬ x = nI c := isR_no (n := 12) (by omega) (by rw [pk_sub (by omega)]; exact h)
theorem recM_o {G : Nat → Nat → Int32} {L k : Nat} (h0 : k ≠ 0) (h2 : k ≠ 2) : recM G L k = G k := by
  unfold recM
  rw [gs_other h0]
  funext f
  unfold kpF
  rw [if_neg (by omega)]
  by_cases h : L = 4
  · rw [if_pos h, gs_other h0]
    unfold shF2
    rw [if_neg (by omega)]
  · rw [if_neg h]
theorem recM_1 {G : Nat → Nat → Int32} {L : Nat} : recM G L 1 = G 1 := recM_o (by omega) (by omega)

def zrF (G : Nat → Nat → Int32) (n k : Nat) : Nat → Nat → Int32 := fun q f => if q = 1 ∧ 9 + 20 * n ≤ f ∧ f < 9 + 20 * n + k then nI 0 else G q f
theorem zrF_0 (G : Nat → Nat → Int32) (n : Nat) : zrF G n 0 = G := by
  funext q f
  unfold zrF
  rw [if_neg (by omega)]
theorem zrF_s (G : Nat → Nat → Int32) (n k : Nat) : gs (zrF G n k) 1 (9 + 20 * n + k) (nI 0) = zrF G n (k + 1) := by
  funext q f
  unfold gs zrF
  by_cases h : q = 1 ∧ f = 9 + 20 * n + k
  · rw [if_pos h, if_pos (by omega)]
  · rw [if_neg h]
    by_cases h2 : q = 1 ∧ 9 + 20 * n ≤ f ∧ f < 9 + 20 * n + k
    · rw [if_pos h2, if_pos (by omega)]
    · rw [if_neg h2, if_neg (by omega)]
/-- a tick of the reference: the numbers, how many versions, how many evicted so far -/
def tkS (n : Nat) (s : (Nat → Int32) × Nat × Nat) : (Nat → Int32) × Nat × Nat := (tkN s.1 s.2.1 n, (rmD (paidN s.1 s.2.1 n) n s.2.1 s.2.1).2.1, s.2.2 + (pyA s.1 (dueM s.1 s.2.1 n) n).2)
def tkI (n : Nat) (s : (Nat → Int32) × Nat × Nat) : Nat → (Nat → Int32) × Nat × Nat
  | 0 => s
  | t + 1 => tkS n (tkI n s t)
theorem rmD_k {N : Nat → Int32} {n V0 : Nat} (hV : N 8 = nI V0) (h2 : N 2 = nI n) (h1 : 1 ≤ V0) : ∀ d, d ≤ V0 → (rmD N n V0 d).1 8 = nI (rmD N n V0 d).2.1 ∧ (rmD N n V0 d).1 2 = nI n ∧ 1 ≤ (rmD N n V0 d).2.1 ∧ V0 - d ≤ (rmD N n V0 d).2.1 ∧ (rmD N n V0 d).2.1 ≤ V0 := by
  intro d
  induction d with
  | zero => intro _; exact ⟨hV, h2, h1, show V0 - 0 ≤ V0 from Nat.sub_le _ _, Nat.le_refl _⟩
  | succ d ih =>
    intro hd
    obtain ⟨a, b, c, e, f⟩ := ih (by omega)
    rw [rmD, rmS]
    by_cases q : olM (rmD N n V0 d).1 (rmD N n V0 d).2.1 (V0 - 1 - d) ∧ nI (cn (sbM (rmD N n V0 d).1 (rmD N n V0 d).2.1 (V0 - 1 - d) (nI 1)) n) = 0
    · rw [if_pos q]
      have h3 : 2 ≤ (rmD N n V0 d).2.1 := by
        rcases Nat.lt_or_ge 1 (rmD N n V0 d).2.1 with z | z
        · exact z
        · exfalso
          have e1 : (rmD N n V0 d).2.1 = 1 := by omega
          have q1 := q.1
          unfold olM at q1
          have := vA_lt (N := (rmD N n V0 d).1) (W := (rmD N n V0 d).2.1) (x := (rmD N n V0 d).1 (809 + 3 * (V0 - 1 - d) + 0)) (y := (rmD N n V0 d).1 0) (by omega)
          omega
      refine ⟨by simp [shK], ?_, by show 1 ≤ _ - 1; omega, by show _ ≤ _ - 1; omega, by show _ - 1 ≤ _; omega⟩
      dsimp only
      unfold shK
      rw [if_neg (by omega), if_neg (by omega)]
      exact b
    · rw [if_neg q]
      exact ⟨a, b, c, by omega, f⟩
theorem rmN_8 {N : Nat → Int32} {n V : Nat} (hV : N 8 = nI V) (h2 : N 2 = nI n) (h1 : 1 ≤ V) : rmN N n V 8 = nI (rmD N n V V).2.1 ∧ rmN N n V 2 = nI n ∧ 1 ≤ (rmD N n V V).2.1 ∧ (rmD N n V V).2.1 ≤ V := by
  obtain ⟨a, b, c, e, f⟩ := rmD_k hV h2 h1 V (Nat.le_refl _)
  refine ⟨?_, ?_, c, f⟩
  · unfold rmN; rw [upd_ne (by omega)]; exact a
  · unfold rmN; rw [upd_ne (by omega)]; exact b
theorem tkN_8 {N : Nat → Int32} {n V : Nat} (hV : N 8 = nI V) (h2 : N 2 = nI n) (h1 : 1 ≤ V) (hn : n ≤ 40) : tkN N V n 8 = nI (rmD (paidN N V n) n V V).2.1 ∧ tkN N V n 2 = nI n ∧ 1 ≤ (rmD (paidN N V n) n V V).2.1 ∧ (rmD (paidN N V n) n V V).2.1 ≤ V := by
  have p8 : paidN N V n 8 = nI V := by unfold paidN; rw [pyA_lo _ _ _ _ hn (by omega) (by omega)]; exact hV
  have p2 : paidN N V n 2 = nI n := by unfold paidN; rw [pyA_lo _ _ _ _ hn (by omega) (by omega)]; exact h2
  obtain ⟨a, b, c, f⟩ := rmN_8 p8 p2 h1
  refine ⟨?_, ?_, c, f⟩
  · unfold tkN; rw [upd_ne (by omega)]; exact a
  · unfold tkN; rw [upd_ne (by omega)]; exact b
def lsR (n r : Nat) : Nat → (Nat → Int32) × Nat × Nat → Nat → Nat
  | 0, _, t => t
  | k + 1, s, t => if s.1 (9 + 20 * r + 2) = 0 ∧ t ≤ 200 then lsR n r k (tkS n s) (t + 1) else t
theorem lsR_s {n r k t : Nat} {s : (Nat → Int32) × Nat × Nat} (hk : 0 < k) (h : s.1 (9 + 20 * r + 2) = 0) (ht : t ≤ 200) : lsR n r k s t = lsR n r (k - 1) (tkS n s) (t + 1) := by
  obtain ⟨q, rfl⟩ : ∃ q, k = q + 1 := ⟨k - 1, by omega⟩
  rw [lsR, if_pos ⟨h, ht⟩]; rfl
theorem lsR_z {n r k t : Nat} {s : (Nat → Int32) × Nat × Nat} (h : ¬ (s.1 (9 + 20 * r + 2) = 0 ∧ t ≤ 200)) : lsR n r k s t = t := by
  cases k with
  | zero => rfl
  | succ k => rw [lsR, if_neg h]

theorem pyA_le (N d : Nat → Int32) (n : Nat) : (pyA N d n).2 ≤ n := by
  induction n with
  | zero => exact Nat.le_refl _
  | succ n ih =>
    rw [pyA, pyS]
    split
    · split
      · show (pyA N d n).2 ≤ _; omega
      · show (pyA N d n).2 + 1 ≤ _; omega
    · split
      · show (pyA N d n).2 ≤ _; omega
      · omega

def clM (N : Nat → Int32) (V n c : Nat) (y : Int32) : Int32 := if y = nI 0 then N (809 + 3 * vA N V (nI c) (N 0) + 2) else if y = nI 1 then N (809 + 3 * vA N V (nI c) (N 0) + 1) else if y = nI 2 then nI (cn (fun q => if N (809 + 3 * q + 0) = nI c then 1 else 0) V) else if y = nI 3 then nI (cn (sbM N V (vA N V (nI c) (N 0)) (nI 1)) n) else if y = nI 4 then nI (cn (fun r => if N (9 + 20 * r + 2) = 0 ∧ hw (N (9 + 20 * r + 4)) c then 1 else 0) n) else -2
def rdM (N : Nat → Int32) (V n k r : Nat) (y : Int32) : Int32 := if y = nI 0 then N (9 + 20 * r + 2) else if y = nI 1 then N (9 + 20 * r + 0) else if y = nI 2 then N (9 + 20 * r + 1) else if y = nI 3 then dueM N V n r else if y = nI 4 then N (9 + 20 * r + 3) else if y = nI 5 then N (9 + 20 * r + 4) else if y = nI 6 then N (9 + 20 * r + 5) else if y = nI 7 then N (9 + 20 * r + 7) else if y = nI 8 then (if N (9 + 20 * r + 2) = 0 then sm (snM N V r (nI 1)) 12 else nI 0) else if y = nI 9 then (if N (9 + 20 * r + 2) = 0 then sm (snM N V r (nI 0)) 12 else nI 0) else if y = nI 10 then (if N (9 + 20 * r + 2) = 0 ∧ cn (cfM N V r) 12 ≠ 0 then nI 1 else nI 0) else if y = nI 11 then (if N (9 + 20 * r + 2) = 0 then nI (cn (ssM N r) k) else nI 0) else -2
def ctM (G : Nat → Nat → Int32) (V n k : Nat) (y : Int32) : Int32 := if y = nI 0 then G 1 0 else if y = nI 1 then G 1 1 else if y = nI 2 then G 1 2 else if y = nI 3 then nI (cn (fun r => if G 1 (9 + 20 * r + 2) = nI 0 then 1 else 0) n) else if y = nI 4 then nI (cn (fun r => if G 1 (9 + 20 * r + 2) = nI 1 then 1 else 0) n) else if y = nI 5 then nI (cn (fun r => if G 1 (9 + 20 * r + 2) = nI 2 then 1 else 0) n) else if y = nI 6 then nI (cn (fun r => if G 1 (9 + 20 * r + 2) = nI 3 then 1 else 0) n) else if y = nI 7 then nI V - nI 12 else if y = nI 8 then G 1 3 else if y = nI 9 then G 1 4 else if y = nI 10 then G 1 5 else if y = nI 11 then G 1 6 else if y = nI 12 then nI (cn (fun q => cn (swM (G 1) q) q) k) else if y = nI 13 then G 1 7 else if y = nI 14 then nI (cn (fun r => if G 1 (9 + 20 * r + 2) = 0 ∧ 0 < G 1 (9 + 20 * r + 5) then 1 else 0) n) else if y = nI 15 then G 0 2 else if y = nI 16 then G 0 5 else -2
def vwF (N : Nat → Int32) (V c : Nat) : Nat → Nat
  | 0 => vA N V (nI c) (N 0)
  | k + 1 => vA N V (nI c) (N (809 + 3 * vwF N V c k + 1) - nI 1)
theorem vwF_lt {N : Nat → Int32} {V c k : Nat} (h : 0 < V) : vwF N V c k < V := by
  cases k with
  | zero => exact vA_lt h
  | succ k => exact vA_lt h
def vrM (N : Nat → Int32) (V n q : Nat) (p y : Int32) : Int32 := if y = nI 0 then N (809 + 3 * q + 2) else if y = nI 1 then N (809 + 3 * q + 1) else if y = nI 2 then nI (cn (sbM N V q (nI 1)) n) else if y = nI 3 then nI (cn (sbM N V q (nI 0)) n) else if p = 0 then nI 0 else reM N V n q
def vcM (N : Nat → Int32) (V c : Nat) : Nat := cn (fun q => if N (809 + 3 * q + 0) = nI c then 1 else 0) V

theorem gs1_rw1 (G : Nat → Nat → Int32) (f : Nat) (x : Int32) : gs G 1 f x = rw1 G (upd (G 1) f x) := by
  rw [← rw1_s, rw1_id]
theorem brF_o {G : Nat → Nat → Int32} {c i k : Nat} (h : k ≠ 1) : brF G c i k = G k := by
  funext f
  unfold brF
  rw [if_neg (by omega)]
theorem caA_k {N : Nat → Int32} {r k mm V n : Nat} (hV : N 8 = nI V) (h2 : N 2 = nI n) : ∀ c, (caA N r k mm V c).1 8 = nI (caA N r k mm V c).2 ∧ (caA N r k mm V c).1 2 = nI n ∧ V ≤ (caA N r k mm V c).2 ∧ (caA N r k mm V c).2 ≤ V + c := by
  intro c
  induction c with
  | zero => exact ⟨by rw [caA]; dsimp only; rw [chN_lo (by omega)]; exact hV, by rw [caA]; dsimp only; rw [chN_lo (by omega)]; exact h2, Nat.le_refl _, Nat.le_refl _⟩
  | succ c ih =>
    obtain ⟨a, b, d, e⟩ := ih
    rw [caA, caS]
    split
    · refine ⟨by dsimp only; exact upd_eq, ?_, by show V ≤ _ + 1; omega, by show _ + 1 ≤ _; omega⟩
      dsimp only
      rw [upd_ne (by omega), upd_ne (by omega), upd_ne (by omega), upd_ne (by omega)]; exact b
    · exact ⟨a, b, d, by omega⟩
/-- the reader committed, its writes among the versions -/
def cdN (N : Nat → Int32) (r k mm V : Nat) : (Nat → Int32) × Nat := if N (9 + 20 * r + 4) = 0 then (upd N (9 + 20 * r + 2) (nI 1), V) else caA (upd N (9 + 20 * r + 2) (nI 1)) r k mm V 12
def cmN (N : Nat → Int32) (r k mm n V : Nat) : Nat → Int32 := rmN (cdN N r k mm V).1 n (cdN N r k mm V).2
def cmV (N : Nat → Int32) (r k mm n V : Nat) : Nat := (rmD (cdN N r k mm V).1 n (cdN N r k mm V).2 (cdN N r k mm V).2).2.1
theorem cdN_k {N : Nat → Int32} {r k mm V n : Nat} (hV : N 8 = nI V) (h2 : N 2 = nI n) : (cdN N r k mm V).1 8 = nI (cdN N r k mm V).2 ∧ (cdN N r k mm V).1 2 = nI n ∧ V ≤ (cdN N r k mm V).2 ∧ (cdN N r k mm V).2 ≤ V + 12 := by
  unfold cdN
  split
  · exact ⟨by dsimp only; rw [upd_ne (by omega)]; exact hV, by dsimp only; rw [upd_ne (by omega)]; exact h2, Nat.le_refl _, Nat.le_add_right _ _⟩
  · exact caA_k (by rw [upd_ne (by omega)]; exact hV) (by rw [upd_ne (by omega)]; exact h2) 12
theorem cmN_k {N : Nat → Int32} {r k mm V n : Nat} (hV : N 8 = nI V) (h2 : N 2 = nI n) (h1 : 1 ≤ V) : cmN N r k mm n V 8 = nI (cmV N r k mm n V) ∧ cmN N r k mm n V 2 = nI n ∧ 1 ≤ cmV N r k mm n V ∧ cmV N r k mm n V ≤ V + 12 := by
  obtain ⟨a, b, c, d⟩ := cdN_k (r := r) (k := k) (mm := mm) hV h2
  obtain ⟨e, f, g, h⟩ := rmN_8 a b (by omega)
  exact ⟨e, f, g, Nat.le_trans h d⟩
/-- as before, where the program looks -/
def agR (G Gt : Nat → Nat → Int32) : Prop := (∀ q, q ≠ 1 → q ≠ 2 → Gt q = G q) ∧ (∀ f, f < 1201 → Gt 1 f = G 1 f) ∧ ∀ f, f < 6005 → Gt 2 f = G 2 f
theorem agR_b (G : Nat → Nat → Int32) (N : Nat → Int32) : agR G (brF (rw1 (kpF G 5 1201) N) 5 1201) := by
  refine ⟨fun q h1 h2 => ?_, fun f hf => ?_, fun f hf => ?_⟩
  · rw [brF_o h1, rw1_o h1]
    funext f
    unfold kpF
    rw [if_neg (by omega)]
  · unfold brF
    rw [if_pos ⟨rfl, hf⟩, rw1_o (by omega)]
    unfold kpF
    rw [if_pos (by omega), show 5 * 1201 + f - 5 * 1201 = f by omega]
  · rw [brF_o (by omega), rw1_o (by omega)]
    unfold kpF
    rw [if_neg (by omega)]theorem gs_row {G : Nat → Nat → Int32} {k f g : Nat} {x : Int32} (h : g ≠ f) : gs G k f x k g = G k g := by simp [gs, h]
end
section

/-- what the history's record does to the state now -/
def rcR (G G' : Nat → Nat → Int32) (pi : Nat → Nat) (L n k : Nat) : Prop := G' 8 1 = nI (rotL L + 1) ∧ (∀ t, t < 4 → G' 9 t = nI (rotP pi L t)) ∧ (∀ q, q ≠ 8 → q ≠ 9 → (q < sB (rotP pi L (rotL L)) ∨ sB (rotP pi L (rotL L)) + 161 ≤ q) → G' q = G q) ∧ CB G G' (rotP pi L (rotL L)) 0 n k
/-- what bringing back the last recorded state does -/
def bbR (G G' : Nat → Nat → Int32) (pi : Nat → Nat) (L n k : Nat) : Prop := G' 8 1 = nI (L - 1) ∧ (∀ q, q ≠ 8 → (q < sB 0 ∨ sB 0 + 161 ≤ q) → G' q = G q) ∧ CB G G' 0 (pi (L - 1)) n k
set_option maxHeartbeats 4000000 in
set_option maxRecDepth 100000 in
theorem c_X6_isCell (l : Launch) {D : va_G} {τ : Nat → ClassId} {ad : Nat → Nat} (hI : kInj ad) {G : Nat → Nat → Int32} {x : Int32} : kM l yX6_isCell cX6_isCell 1 (some .boolean) { frames := 0, cells := 0, slots := 0, locals := 0 } D τ ad [.int x] G (fun v G' => v = (if nI 0 ≤ x ∧ x < nI 12 then 1 else 0) ∧ G' = G) := by
  refine kMetZ (own := RX6) (by decide) rfl (Nat.le_of_ble_eq_true rfl) ?_
  intro p9 e9 s9 m9 args9 below9 meth9 c9 Q9 X hx hb hP hS hret ls hl
  have hPs := hP
  have hl : lv_has ls 1 [(0, .int x)] := hl
  refine lv_iload_n hx hb dX6_isCell_0 rfl (lv_at hl 0 rfl) ?_
  refine lv_if_lt (tgt := 14) hx hb dX6_isCell_1 (by decide) (fun c_1 => ?_) (fun c_1 => ?_)
  · skip
    refine lv_iconst (v := nI 0) hx hb dX6_isCell_14 (by decide) ?_
    exact hret _ _ _ _ _ _ (by decide) (by refine ⟨?_, rfl⟩; first | exact (if_pos ⟨Int32.not_lt.mp c_1, Int32.not_le.mp c_7⟩).symm | exact (if_neg (fun z => Int32.not_lt.mpr z.1 c_1)).symm | exact (if_neg (fun z => Int32.not_le.mpr z.2 c_7)).symm) hP hS dX6_isCell_15
  · skip
    refine lv_iload_n hx hb dX6_isCell_4 rfl (lv_at hl 0 rfl) ?_
    refine lv_bipush (v := nI 12) hx hb dX6_isCell_5 (by decide) ?_
    first
      | refine kic_ge (tgt := 14) hx hb dX6_isCell_7 (by decide) (by with_reducible rfl) (by with_reducible rfl) (by omega) (by omega) (fun c_7 => ?_) (fun c_7 => ?_)
      | refine lv_icmp_ge (tgt := 14) hx hb dX6_isCell_7 (by decide) (fun c_7 => ?_) (fun c_7 => ?_)
    · skip
      refine lv_iconst (v := nI 0) hx hb dX6_isCell_14 (by decide) ?_
      exact hret _ _ _ _ _ _ (by decide) (by refine ⟨?_, rfl⟩; first | exact (if_pos ⟨Int32.not_lt.mp c_1, Int32.not_le.mp c_7⟩).symm | exact (if_neg (fun z => Int32.not_lt.mpr z.1 c_1)).symm | exact (if_neg (fun z => Int32.not_le.mpr z.2 c_7)).symm) hP hS dX6_isCell_15
    · skip
      refine lv_iconst (v := nI 1) hx hb dX6_isCell_10 (by decide) ?_
      refine lv_goto (tgt := 15) hx hb dX6_isCell_11 (by decide) ?_
      exact hret _ _ _ _ _ _ (by decide) (by refine ⟨?_, rfl⟩; first | exact (if_pos ⟨Int32.not_lt.mp c_1, Int32.not_le.mp c_7⟩).symm | exact (if_neg (fun z => Int32.not_lt.mpr z.1 c_1)).symm | exact (if_neg (fun z => Int32.not_le.mpr z.2 c_7)).symm) hP hS dX6_isCell_15

set_option maxHeartbeats 4000000 in
set_option maxRecDepth 100000 in
theorem c_X6_undo (l : Launch) {D : va_G} {τ : Nat → ClassId} {ad : Nat → Nat} (hI : kInj ad) {G : Nat → Nat → Int32} {n k L : Nat} {pi : Nat → Nat} (hL : G 8 1 = nI L) (hL4 : L ≤ 4) (hpi : ∀ t, t < 4 → G 9 t = nI (pi t) ∧ pi t < 7) (hne : ∀ t, t < 4 → pi t ≠ 0) (hn : 1 ≤ L → G (sB (pi (L - 1))) 6 = nI n) (hn4 : n ≤ 40) (hk : 1 ≤ L → G (sB (pi (L - 1))) 7 = nI k) (hk4 : k ≤ 40) (hz : 1 ≤ L → ∀ r, r < n → G (rN (pi (L - 1)) r) 8 = 0 ∨ G (rN (pi (L - 1)) r) 8 = 1) (hy : 1 ≤ L → G (sB (pi (L - 1))) 9 = 0 ∨ G (sB (pi (L - 1))) 9 = 1) : kM l yX6_undo cX6_undo 1 (some .int) { frames := 4, cells := 0, slots := 0, locals := 104 } D τ ad [.ref (ad 7)] G (fun v G' => if L = 0 then v = -5 ∧ G' = G else v = nI (L - 1) ∧ bbR G G' pi L n k) := by
  refine kMet (own := RX6) (by decide) rfl (Nat.le_of_ble_eq_true rfl) ?_
  intro p9 e9 s9 m9 args9 below9 meth9 c9 Q9 X hx hb hP hS hret ls hl
  have hPs := hP
  have hl : lv_has ls 1 [(0, .ref (ad 7))] := hl
  refine lv_aload_n hx hb dX6_undo_0 rfl (lv_at hl 0 rfl) ?_
  refine kget X hP oX g_X6_25 rfl dX6_undo_1 ?_
  refine kget X hP oH g_X6_165 (congrArg (fun z => some (Value.int z)) hL) dX6_undo_4 ?_
  first
    | refine kif_ne (tgt := 13) hx hb dX6_undo_7 (by decide) (fun c_7 => ?_) (fun c_7 => ?_)
    | refine lv_if_ne (tgt := 13) hx hb dX6_undo_7 (by decide) (fun c_7 => ?_) (fun c_7 => ?_)
  · skip
    have h0 : ¬ L = 0 := fun q => c_7 (by rw [q]; rfl)
    have h1 : 1 ≤ L := by omega
    refine lv_aload_n hx hb dX6_undo_13 rfl (lv_at hl 0 rfl) ?_
    refine kget X hP oX g_X6_25 rfl dX6_undo_14 ?_
    refine lv_aload_n hx hb dX6_undo_17 rfl (lv_at hl 0 rfl) ?_
    refine kget X hP oX g_X6_12 rfl dX6_undo_18 ?_
    refine kcVv X hP hS (c_X2_bringBack l hI (j := 0) (n := n) (k := k) (L := L) (pi := pi) (by omega) hL h1 hL4 hpi (fun z => hne (L - 1) (by omega) z.symm) (hn h1) hn4 (hk h1) hk4 (hz h1) (hy h1)) oH v_X6_166 ⟨Nat.le_of_ble_eq_true rfl, Nat.le_of_ble_eq_true rfl, rfl, rfl⟩ rfl rfl (Nat.le_of_ble_eq_true rfl) hl.1 ⟨Nat.zero_le _, Nat.zero_le _⟩ dX6_undo_21 (fun G_21 H locs hR hP hS => ?_)
    have h_21 := hR
    refine lv_aload_n hx hb dX6_undo_24 rfl (lv_at hl 0 rfl) ?_
    refine kget X hP oX g_X6_25 rfl dX6_undo_25 ?_
    refine kget X hP oH g_X6_165 (congrArg (fun z => some (Value.int z)) h_21.1) dX6_undo_28 ?_
    exact hret _ _ _ _ _ _ (by rw [if_neg h0]; exact ⟨rfl, h_21⟩) hP hS dX6_undo_31
  · skip
    have h0 : L = 0 := by
      rcases Nat.eq_zero_or_pos L with q | q
      · exact q
      · exact absurd c_7 (nI_ne0 q (by omega))
    refine lv_bipush (v := (-5)) hx hb dX6_undo_10 (by decide) ?_
    exact hret _ _ _ _ _ _ (by rw [if_pos h0]; exact ⟨rfl, rfl⟩) hP hS dX6_undo_12

set_option maxHeartbeats 4000000 in
set_option maxRecDepth 100000 in
theorem c_X6_setRent (l : Launch) {D : va_G} {τ : Nat → ClassId} {ad : Nat → Nat} (hI : kInj ad) {G : Nat → Nat → Int32} {n k L : Nat} {y : Int32} {pi : Nat → Nat} (hL : G 8 1 = nI L) (hL4 : L ≤ 4) (hpi : ∀ t, t < 4 → G 9 t = nI (pi t) ∧ pi t < 7) (hne : ∀ t, t < 4 → pi t ≠ 0) (hn : G (sB 0) 6 = nI n) (hn4 : n ≤ 40) (hk : G (sB 0) 7 = nI k) (hk4 : k ≤ 40) (hz : ∀ r, r < n → G (rN 0 r) 8 = 0 ∨ G (rN 0 r) 8 = 1) (hy : G (sB 0) 9 = 0 ∨ G (sB 0) 9 = 1) : kM l yX6_setRent cX6_setRent 3 (some .int) { frames := 4, cells := 0, slots := 0, locals := 104 } D τ ad [.ref (ad 7), .int y] G (fun v G' => if nI 0 ≤ y ∧ y ≤ nI 99 then (if y = G (sB 0) 5 then v = -5 ∧ G' = G else v = G (sB 0) 5 ∧ ∃ Gr, rcR G Gr pi L n k ∧ G' = gs Gr (sB 0) 5 y) else v = -2 ∧ G' = G) := by
  refine kMet (own := RX6) (by decide) rfl (Nat.le_of_ble_eq_true rfl) ?_
  intro p9 e9 s9 m9 args9 below9 meth9 c9 Q9 X hx hb hP hS hret ls hl
  have hPs := hP
  have hl : lv_has ls 3 [(0, .ref (ad 7)), (1, .int y)] := hl
  refine lv_iload_n hx hb dX6_setRent_0 rfl (lv_at hl 1 rfl) ?_
  refine lv_if_lt (tgt := 10) hx hb dX6_setRent_1 (by decide) (fun c_1 => ?_) (fun c_1 => ?_)
  · skip
    refine lv_bipush (v := (-2)) hx hb dX6_setRent_10 (by decide) ?_
    exact hret _ _ _ _ _ _ (by rw [if_neg (fun z => Int32.not_lt.mpr z.1 c_1)]; exact ⟨rfl, rfl⟩) hP hS dX6_setRent_12
  · skip
    refine lv_iload_n hx hb dX6_setRent_4 rfl (lv_at hl 1 rfl) ?_
    refine lv_bipush (v := nI 99) hx hb dX6_setRent_5 (by decide) ?_
    first
      | refine kic_le (tgt := 13) hx hb dX6_setRent_7 (by decide) (by with_reducible rfl) (by with_reducible rfl) (by omega) (by omega) (fun c_7 => ?_) (fun c_7 => ?_)
      | refine lv_icmp_le (tgt := 13) hx hb dX6_setRent_7 (by decide) (fun c_7 => ?_) (fun c_7 => ?_)
    · skip
      refine lv_aload_n hx hb dX6_setRent_13 rfl (lv_at hl 0 rfl) ?_
      refine kget X hP oX g_X6_12 rfl dX6_setRent_14 ?_
      refine kget X hP (oS (j := 0) (by omega)) g_X6_86 rfl dX6_setRent_17 ?_
      refine kist hx hb dX6_setRent_20 rfl hl (by decide) (kp_2_2 rfl) (fun ls hl => ?_)
      refine lv_iload_n hx hb dX6_setRent_21 rfl (lv_at hl 1 rfl) ?_
      refine lv_iload_n hx hb dX6_setRent_22 rfl (lv_at hl 2 rfl) ?_
      first
        | refine kic_ne (tgt := 29) hx hb dX6_setRent_23 (by decide) (by with_reducible rfl) (by with_reducible rfl) (by omega) (by omega) (fun c_23 => ?_) (fun c_23 => ?_)
        | refine lv_icmp_ne (tgt := 29) hx hb dX6_setRent_23 (by decide) (fun c_23 => ?_) (fun c_23 => ?_)
      · skip
        refine lv_aload_n hx hb dX6_setRent_29 rfl (lv_at hl 0 rfl) ?_
        refine kget X hP oX g_X6_25 rfl dX6_setRent_30 ?_
        refine lv_aload_n hx hb dX6_setRent_33 rfl (lv_at hl 0 rfl) ?_
        refine kget X hP oX g_X6_12 rfl dX6_setRent_34 ?_
        refine kcVv X hP hS (c_X2_record l hI (j := 0) (n := n) (k := k) (L := L) (pi := pi) (by omega) hL hL4 hpi hne hn hn4 hk hk4 hz hy) oH v_X6_44 ⟨Nat.le_of_ble_eq_true rfl, Nat.le_of_ble_eq_true rfl, rfl, rfl⟩ rfl rfl (Nat.le_of_ble_eq_true rfl) hl.1 ⟨Nat.zero_le _, Nat.zero_le _⟩ dX6_setRent_37 (fun G_37 H locs hR hP hS => ?_)
        have h_37 := hR
        refine lv_aload_n hx hb dX6_setRent_40 rfl (lv_at hl 0 rfl) ?_
        refine kget X hP oX g_X6_12 rfl dX6_setRent_41 ?_
        refine lv_iload_n hx hb dX6_setRent_44 rfl (lv_at hl 1 rfl) ?_
        refine kput X hI hP hS (oS (j := 0) (by omega)) g_X6_86 (fun _ => rfl) rfl (fun _ => Nat.le_of_ble_eq_true rfl) rfl rfl dX6_setRent_45 (fun H locs hP hS => ?_)
        refine lv_iload_n hx hb dX6_setRent_48 rfl (lv_at hl 2 rfl) ?_
        exact hret _ _ _ _ _ _ (by rw [if_pos ⟨Int32.not_lt.mp c_1, c_7⟩, if_neg c_23]; exact ⟨rfl, _, h_37, rfl⟩) hP hS dX6_setRent_49
      · skip
        refine lv_bipush (v := (-5)) hx hb dX6_setRent_26 (by decide) ?_
        exact hret _ _ _ _ _ _ (by rw [if_pos ⟨Int32.not_lt.mp c_1, c_7⟩, if_pos c_23]; exact ⟨rfl, rfl⟩) hP hS dX6_setRent_28
    · skip
      refine lv_bipush (v := (-2)) hx hb dX6_setRent_10 (by decide) ?_
      exact hret _ _ _ _ _ _ (by rw [if_neg (fun z => absurd z.2 c_7)]; exact ⟨rfl, rfl⟩) hP hS dX6_setRent_12
end
section

theorem hsR_yes {n : Nat} {x : Int32} (hn : n ≤ 40) (h : 0 ≤ x ∧ x < nI n) : ∃ r, r < n ∧ x = nI r := by
  obtain ⟨r, h1, rfl⟩ := nI_of (x := x) (Int32.not_lt.mpr h.1)
  exact ⟨r, (nI_ltI h1 (by omega)).mp h.2, rfl⟩
theorem hsR_no {n : Nat} {x : Int32} (hn : n ≤ 40) (h : ¬ (0 ≤ x ∧ x < nI n)) : ∀ r, r < n → ¬ x = nI r := by
  intro r hr e
  apply h
  rw [e]
  exact ⟨nI_le (a := 0) (by omega) (by omega), (nI_ltI (by omega) (by omega)).mpr hr⟩
theorem rcR_0 {G Gr : Nat → Nat → Int32} {pi : Nat → Nat} {L n k : Nat} (h : rcR G Gr pi L n k) (hL4 : L ≤ 4) (hne : ∀ t, t < 4 → pi t ≠ 0) : ∀ q, q ≠ 8 → q ≠ 9 → q < 175 → Gr q = G q := by
  intro q h8 h9 hq
  have := rotP_all (L := L) (Z := fun q => q ≠ 0) hne (rotL_lt hL4)
  exact h.2.2.1 q h8 h9 (Or.inl (by unfold sB; omega))
set_option maxHeartbeats 4000000 in
set_option maxRecDepth 100000 in
theorem c_X3_numberOfWrites (l : Launch) {D : va_G} {τ : Nat → ClassId} {ad : Nat → Nat} (hI : kInj ad) {G : Nat → Nat → Int32} {j r : Nat} (hj : j < 7) (hr : r < 40) : kM l yX3_numberOfWrites cX3_numberOfWrites 1 (some .int) { frames := 1, cells := 0, slots := 0, locals := 20 } D τ ad [.ref (ad (rN j r))] G (fun v G' => v = bcF (G (rN j r) 5) ∧ G' = G) := by
  refine kMet (own := RX3) (by decide) rfl (Nat.le_of_ble_eq_true rfl) ?_
  intro p9 e9 s9 m9 args9 below9 meth9 c9 Q9 X hx hb hP hS hret ls hl
  have hPs := hP
  have hl : lv_has ls 1 [(0, .ref (ad (rN j r)))] := hl
  refine lv_aload_n hx hb dX3_numberOfWrites_0 rfl (lv_at hl 0 rfl) ?_
  refine kget X hP (oR (by first | assumption | omega) (by first | assumption | omega)) g_X3_28 rfl dX3_numberOfWrites_1 ?_
  refine kcS2 X hP hS (c_J6_bitCount_0f7a4 l hI) (n := 1) ⟨kWs_of 485 (by decide +kernel) rfl, mw_J6_bitCount_0f7a4.2.1, mw_J6_bitCount_0f7a4.2.2, mw_J6_bitCount_0f7a4.1, by decide, by decide, by decide +kernel⟩ ⟨Nat.le_of_ble_eq_true rfl, Nat.le_of_ble_eq_true rfl, rfl, rfl⟩ rfl rfl (Nat.le_of_ble_eq_true rfl) hl.1 ⟨Nat.zero_le _, Nat.zero_le _⟩ dX3_numberOfWrites_4 (fun r_4 G_4 H locs hR hP hS => ?_)
  obtain ⟨rfl, hG_4⟩ := hR
  rw [hG_4] at hP
  clear hG_4
  exact hret _ _ _ _ _ _ (⟨rfl, rfl⟩) hP hS dX3_numberOfWrites_7

set_option maxHeartbeats 4000000 in
set_option maxRecDepth 100000 in
theorem c_X6_pay (l : Launch) {D : va_G} {τ : Nat → ClassId} {ad : Nat → Nat} (hI : kInj ad) {G : Nat → Nat → Int32} {n k L : Nat} {x y : Int32} {pi : Nat → Nat} (hL : G 8 1 = nI L) (hL4 : L ≤ 4) (hpi : ∀ t, t < 4 → G 9 t = nI (pi t) ∧ pi t < 7) (hne : ∀ t, t < 4 → pi t ≠ 0) (hn : G (sB 0) 6 = nI n) (hn4 : n ≤ 40) (hk : G (sB 0) 7 = nI k) (hk4 : k ≤ 40) (hz : ∀ r, r < n → G (rN 0 r) 8 = 0 ∨ G (rN 0 r) 8 = 1) (hy : G (sB 0) 9 = 0 ∨ G (sB 0) 9 = 1) : kM l yX6_pay cX6_pay 4 (some .int) { frames := 4, cells := 0, slots := 0, locals := 104 } D τ ad [.ref (ad 7), .int x, .int y] G (fun v G' => rdP n x (v = -1 ∧ G' = G) (fun r => if nI 1 ≤ y ∧ y ≤ nI 9999 then (if G (rN 0 r) 1 = 0 then (if nI 9999 < G (rN 0 r) 3 + y then v = -3 ∧ G' = G else v = G (rN 0 r) 3 + y ∧ ∃ Gr, rcR G Gr pi L n k ∧ G' = gs Gr (rN 0 r) 3 (G (rN 0 r) 3 + y)) else v = -4 ∧ G' = G) else v = -2 ∧ G' = G)) := by
  refine kMet (own := RX6) (by decide) rfl (Nat.le_of_ble_eq_true rfl) ?_
  intro p9 e9 s9 m9 args9 below9 meth9 c9 Q9 X hx hb hP hS hret ls hl
  have hPs := hP
  have hl : lv_has ls 4 [(0, .ref (ad 7)), (1, .int x), (2, .int y)] := hl
  refine lv_aload_n hx hb dX6_pay_0 rfl (lv_at hl 0 rfl) ?_
  refine kget X hP oX g_X6_12 rfl dX6_pay_1 ?_
  refine lv_iload_n hx hb dX6_pay_4 rfl (lv_at hl 1 rfl) ?_
  refine kcV X hP hS (c_X4_hasReader l hI (j := 0) (by omega)) (oS (j := 0) (by omega)) v_X6_51 ⟨Nat.le_of_ble_eq_true rfl, Nat.le_of_ble_eq_true rfl, rfl, rfl⟩ rfl rfl (Nat.le_of_ble_eq_true rfl) hl.1 ⟨Nat.zero_le _, Nat.zero_le _⟩ dX6_pay_5 (fun r_5 G_5 H locs hR hP hS => ?_)
  obtain ⟨rfl, hG_5⟩ := hR
  rw [hG_5] at hP
  clear hG_5
  first
    | refine kif_ne (tgt := 13) hx hb dX6_pay_8 (by decide) (fun c_8 => ?_) (fun c_8 => ?_)
    | refine lv_if_ne (tgt := 13) hx hb dX6_pay_8 (by decide) (fun c_8 => ?_) (fun c_8 => ?_)
  · skip
    obtain ⟨r, hr, rfl⟩ := hsR_yes hn4 (by rw [hn] at c_8; exact c_8)
    refine lv_iload_n hx hb dX6_pay_13 rfl (lv_at hl 2 rfl) ?_
    refine lv_iconst (v := nI 1) hx hb dX6_pay_14 (by decide) ?_
    first
      | refine kic_lt (tgt := 25) hx hb dX6_pay_15 (by decide) (by with_reducible rfl) (by with_reducible rfl) (by omega) (by omega) (fun c_15 => ?_) (fun c_15 => ?_)
      | refine lv_icmp_lt (tgt := 25) hx hb dX6_pay_15 (by decide) (fun c_15 => ?_) (fun c_15 => ?_)
    · skip
      refine lv_bipush (v := (-2)) hx hb dX6_pay_25 (by decide) ?_
      exact hret _ _ _ _ _ _ (rdP_h hr hn4 (by rw [if_neg (fun z => Int32.not_lt.mpr z.1 c_15)]; exact ⟨rfl, rfl⟩)) hP hS dX6_pay_27
    · skip
      refine lv_iload_n hx hb dX6_pay_18 rfl (lv_at hl 2 rfl) ?_
      refine lv_sipush (v := nI 9999) hx hb dX6_pay_19 (by decide) ?_
      first
        | refine kic_le (tgt := 28) hx hb dX6_pay_22 (by decide) (by with_reducible rfl) (by with_reducible rfl) (by omega) (by omega) (fun c_22 => ?_) (fun c_22 => ?_)
        | refine lv_icmp_le (tgt := 28) hx hb dX6_pay_22 (by decide) (fun c_22 => ?_) (fun c_22 => ?_)
      · skip
        refine lv_aload_n hx hb dX6_pay_28 rfl (lv_at hl 0 rfl) ?_
        refine kget X hP oX g_X6_12 rfl dX6_pay_29 ?_
        refine kget X hP (oS (j := 0) (by omega)) g_X6_55 rfl dX6_pay_32 ?_
        refine lv_iload_n hx hb dX6_pay_35 rfl (lv_at hl 1 rfl) ?_
        refine kaald X hP (qR (j := 0) (by omega)) (by omega) rfl dX6_pay_36 ?_
        refine kast hx hb dX6_pay_37 rfl hl (by decide) (kp_3_3 rfl) (fun ls hl => ?_)
        refine lv_aload_n hx hb dX6_pay_38 rfl (lv_at hl 3 rfl) ?_
        refine kcV X hP hS (c_X3_isOpen l hI (j := 0) (by omega) (by omega)) (oR (j := 0) (r := r) (by omega) (by omega)) v_X6_59 ⟨Nat.le_of_ble_eq_true rfl, Nat.le_of_ble_eq_true rfl, rfl, rfl⟩ rfl rfl (Nat.le_of_ble_eq_true rfl) hl.1 ⟨Nat.zero_le _, Nat.zero_le _⟩ dX6_pay_39 (fun r_39 G_39 H locs hR hP hS => ?_)
        obtain ⟨rfl, hG_39⟩ := hR
        rw [hG_39] at hP
        clear hG_39
        first
          | refine kif_ne (tgt := 48) hx hb dX6_pay_42 (by decide) (fun c_42 => ?_) (fun c_42 => ?_)
          | refine lv_if_ne (tgt := 48) hx hb dX6_pay_42 (by decide) (fun c_42 => ?_) (fun c_42 => ?_)
        · skip
          refine lv_aload_n hx hb dX6_pay_48 rfl (lv_at hl 3 rfl) ?_
          refine kget X hP (oR (j := 0) (r := r) (by omega) (by omega)) g_X6_65 rfl dX6_pay_49 ?_
          refine lv_iload_n hx hb dX6_pay_52 rfl (lv_at hl 2 rfl) ?_
          refine lv_iadd hx hb dX6_pay_53 ?_
          refine lv_sipush (v := nI 9999) hx hb dX6_pay_54 (by decide) ?_
          first
            | refine kic_le (tgt := 63) hx hb dX6_pay_57 (by decide) (by with_reducible rfl) (by with_reducible rfl) (by omega) (by omega) (fun c_57 => ?_) (fun c_57 => ?_)
            | refine lv_icmp_le (tgt := 63) hx hb dX6_pay_57 (by decide) (fun c_57 => ?_) (fun c_57 => ?_)
          · skip
            refine lv_aload_n hx hb dX6_pay_63 rfl (lv_at hl 0 rfl) ?_
            refine kget X hP oX g_X6_25 rfl dX6_pay_64 ?_
            refine lv_aload_n hx hb dX6_pay_67 rfl (lv_at hl 0 rfl) ?_
            refine kget X hP oX g_X6_12 rfl dX6_pay_68 ?_
            refine kcVv X hP hS (c_X2_record l hI (j := 0) (n := n) (k := k) (L := L) (pi := pi) (by omega) hL hL4 hpi hne hn hn4 hk hk4 hz hy) oH v_X6_44 ⟨Nat.le_of_ble_eq_true rfl, Nat.le_of_ble_eq_true rfl, rfl, rfl⟩ rfl rfl (Nat.le_of_ble_eq_true rfl) hl.1 ⟨Nat.zero_le _, Nat.zero_le _⟩ dX6_pay_71 (fun G_71 H locs hR hP hS => ?_)
            have h_71 : rcR G G_71 pi L n k := hR
            have e0 := rcR_0 h_71 hL4 hne
            have er : G_71 (rN 0 r) = G (rN 0 r) := e0 _ (by unfold rN; omega) (by unfold rN; omega) (by unfold rN; omega)
            refine lv_aload_n hx hb dX6_pay_74 rfl (lv_at hl 3 rfl) ?_
            refine lv_dup hx hb dX6_pay_75 rfl ?_
            refine kget X hP (oR (j := 0) (r := r) (by omega) (by omega)) g_X6_65 rfl dX6_pay_76 ?_
            refine lv_iload_n hx hb dX6_pay_79 rfl (lv_at hl 2 rfl) ?_
            refine lv_iadd hx hb dX6_pay_80 ?_
            rw [er]
            refine kput X hI hP hS (oR (j := 0) (r := r) (by omega) (by omega)) g_X6_65 (fun _ => rfl) rfl (fun _ => Nat.le_of_ble_eq_true rfl) rfl rfl dX6_pay_81 (fun H locs hP hS => ?_)
            refine lv_aload_n hx hb dX6_pay_84 rfl (lv_at hl 3 rfl) ?_
            refine kget X hP (oR (j := 0) (r := r) (by omega) (by omega)) g_X6_65 rfl dX6_pay_85 ?_
            exact hret _ _ _ _ _ _ (rdP_h hr hn4 (by rw [if_pos ⟨Int32.not_lt.mp c_15, c_22⟩, if_pos c_42, if_neg (Int32.not_lt.mpr c_57)]; exact ⟨by simp [gs], _, h_71, rfl⟩)) hP hS dX6_pay_88
          · skip
            refine lv_bipush (v := (-3)) hx hb dX6_pay_60 (by decide) ?_
            exact hret _ _ _ _ _ _ (rdP_h hr hn4 (by rw [if_pos ⟨Int32.not_lt.mp c_15, c_22⟩, if_pos c_42, if_pos (Int32.not_le.mp c_57)]; exact ⟨rfl, rfl⟩)) hP hS dX6_pay_62
        · skip
          refine lv_bipush (v := (-4)) hx hb dX6_pay_45 (by decide) ?_
          exact hret _ _ _ _ _ _ (rdP_h hr hn4 (by rw [if_pos ⟨Int32.not_lt.mp c_15, c_22⟩, if_neg c_42]; exact ⟨rfl, rfl⟩)) hP hS dX6_pay_47
      · skip
        refine lv_bipush (v := (-2)) hx hb dX6_pay_25 (by decide) ?_
        exact hret _ _ _ _ _ _ (rdP_h hr hn4 (by rw [if_neg (fun z => absurd z.2 c_22)]; exact ⟨rfl, rfl⟩)) hP hS dX6_pay_27
  · skip
    have hms := hsR_no hn4 (by rw [hn] at c_8; exact c_8)
    refine lv_iconst (v := (-1)) hx hb dX6_pay_11 (by decide) ?_
    exact hret _ _ _ _ _ _ (rdP_m hms ⟨rfl, rfl⟩) hP hS dX6_pay_12

set_option maxHeartbeats 4000000 in
set_option maxRecDepth 100000 in
theorem c_X6_write (l : Launch) {D : va_G} {τ : Nat → ClassId} {ad : Nat → Nat} (hI : kInj ad) {G : Nat → Nat → Int32} {n k L : Nat} {x y z : Int32} {pi : Nat → Nat} (hL : G 8 1 = nI L) (hL4 : L ≤ 4) (hpi : ∀ t, t < 4 → G 9 t = nI (pi t) ∧ pi t < 7) (hne : ∀ t, t < 4 → pi t ≠ 0) (hn : G (sB 0) 6 = nI n) (hn4 : n ≤ 40) (hk : G (sB 0) 7 = nI k) (hk4 : k ≤ 40) (hz : ∀ r, r < n → G (rN 0 r) 8 = 0 ∨ G (rN 0 r) 8 = 1) (hy : G (sB 0) 9 = 0 ∨ G (sB 0) 9 = 1) : kM l yX6_write cX6_write 5 (some .int) { frames := 4, cells := 0, slots := 0, locals := 104 } D τ ad [.ref (ad 7), .int x, .int y, .int z] G (fun v G' => rdP n x (v = -1 ∧ G' = G) (fun r => rdP 12 y (v = -1 ∧ G' = G) (fun c => if nI 0 ≤ z ∧ z ≤ nI 9999 then (if G (rN 0 r) 1 = 0 then ∃ Gr, rcR G Gr pi L n k ∧ v = bcF (G (rN 0 r) 5 ||| bt c) ∧ G' = gs (gs Gr (rW 0 r) c z) (rN 0 r) 5 (G (rN 0 r) 5 ||| bt c) else v = -4 ∧ G' = G) else v = -2 ∧ G' = G))) := by
  refine kMet (own := RX6) (by decide) rfl (Nat.le_of_ble_eq_true rfl) ?_
  intro p9 e9 s9 m9 args9 below9 meth9 c9 Q9 X hx hb hP hS hret ls hl
  have hPs := hP
  have hl : lv_has ls 5 [(0, .ref (ad 7)), (1, .int x), (2, .int y), (3, .int z)] := hl
  refine lv_aload_n hx hb dX6_write_0 rfl (lv_at hl 0 rfl) ?_
  refine kget X hP oX g_X6_12 rfl dX6_write_1 ?_
  refine lv_iload_n hx hb dX6_write_4 rfl (lv_at hl 1 rfl) ?_
  refine kcV X hP hS (c_X4_hasReader l hI (j := 0) (by omega)) (oS (j := 0) (by omega)) v_X6_51 ⟨Nat.le_of_ble_eq_true rfl, Nat.le_of_ble_eq_true rfl, rfl, rfl⟩ rfl rfl (Nat.le_of_ble_eq_true rfl) hl.1 ⟨Nat.zero_le _, Nat.zero_le _⟩ dX6_write_5 (fun r_5 G_5 H locs hR hP hS => ?_)
  obtain ⟨rfl, hG_5⟩ := hR
  rw [hG_5] at hP
  clear hG_5
  first
    | refine kif_eq (tgt := 18) hx hb dX6_write_8 (by decide) (fun c_8 => ?_) (fun c_8 => ?_)
    | refine lv_if_eq (tgt := 18) hx hb dX6_write_8 (by decide) (fun c_8 => ?_) (fun c_8 => ?_)
  · skip
    have hms := hsR_no hn4 (by rw [hn] at c_8; exact c_8)
    refine lv_iconst (v := (-1)) hx hb dX6_write_18 (by decide) ?_
    exact hret _ _ _ _ _ _ (rdP_m hms ⟨rfl, rfl⟩) hP hS dX6_write_19
  · skip
    obtain ⟨r, hr, rfl⟩ := hsR_yes hn4 (by rw [hn] at c_8; exact c_8)
    refine lv_iload_n hx hb dX6_write_11 rfl (lv_at hl 2 rfl) ?_
    refine kcS X hP hS (c_X6_isCell l hI) v_X6_99 ⟨Nat.le_of_ble_eq_true rfl, Nat.le_of_ble_eq_true rfl, rfl, rfl⟩ rfl rfl (Nat.le_of_ble_eq_true rfl) hl.1 ⟨Nat.zero_le _, Nat.zero_le _⟩ dX6_write_12 (fun r_12 G_12 H locs hR hP hS => ?_)
    obtain ⟨rfl, hG_12⟩ := hR
    rw [hG_12] at hP
    clear hG_12
    first
      | refine kif_ne (tgt := 20) hx hb dX6_write_15 (by decide) (fun c_15 => ?_) (fun c_15 => ?_)
      | refine lv_if_ne (tgt := 20) hx hb dX6_write_15 (by decide) (fun c_15 => ?_) (fun c_15 => ?_)
    · skip
      obtain ⟨c, hc, rfl⟩ := hsR_yes (n := 12) (by omega) c_15
      refine lv_iload_n hx hb dX6_write_20 rfl (lv_at hl 3 rfl) ?_
      refine lv_if_lt (tgt := 31) hx hb dX6_write_21 (by decide) (fun c_21 => ?_) (fun c_21 => ?_)
      · skip
        refine lv_bipush (v := (-2)) hx hb dX6_write_31 (by decide) ?_
        exact hret _ _ _ _ _ _ (rdP_h hr hn4 (rdP_h hc (by omega) (by rw [if_neg (fun z => Int32.not_lt.mpr z.1 c_21)]; exact ⟨rfl, rfl⟩))) hP hS dX6_write_33
      · skip
        refine lv_iload_n hx hb dX6_write_24 rfl (lv_at hl 3 rfl) ?_
        refine lv_sipush (v := nI 9999) hx hb dX6_write_25 (by decide) ?_
        first
          | refine kic_le (tgt := 34) hx hb dX6_write_28 (by decide) (by with_reducible rfl) (by with_reducible rfl) (by omega) (by omega) (fun c_28 => ?_) (fun c_28 => ?_)
          | refine lv_icmp_le (tgt := 34) hx hb dX6_write_28 (by decide) (fun c_28 => ?_) (fun c_28 => ?_)
        · skip
          refine lv_aload_n hx hb dX6_write_34 rfl (lv_at hl 0 rfl) ?_
          refine kget X hP oX g_X6_12 rfl dX6_write_35 ?_
          refine kget X hP (oS (j := 0) (by omega)) g_X6_55 rfl dX6_write_38 ?_
          refine lv_iload_n hx hb dX6_write_41 rfl (lv_at hl 1 rfl) ?_
          refine kaald X hP (qR (j := 0) (by omega)) (by omega) rfl dX6_write_42 ?_
          refine kastW hx hb dX6_write_43 hl (by decide) (kp_4_4 rfl) (fun ls hl => ?_)
          refine lv_aload hx hb dX6_write_45 (lv_at hl 4 rfl) ?_
          refine kcV X hP hS (c_X3_isOpen l hI (j := 0) (by omega) (by omega)) (oR (j := 0) (r := r) (by omega) (by omega)) v_X6_59 ⟨Nat.le_of_ble_eq_true rfl, Nat.le_of_ble_eq_true rfl, rfl, rfl⟩ rfl rfl (Nat.le_of_ble_eq_true rfl) hl.1 ⟨Nat.zero_le _, Nat.zero_le _⟩ dX6_write_47 (fun r_47 G_47 H locs hR hP hS => ?_)
          obtain ⟨rfl, hG_47⟩ := hR
          rw [hG_47] at hP
          clear hG_47
          first
            | refine kif_ne (tgt := 56) hx hb dX6_write_50 (by decide) (fun c_50 => ?_) (fun c_50 => ?_)
            | refine lv_if_ne (tgt := 56) hx hb dX6_write_50 (by decide) (fun c_50 => ?_) (fun c_50 => ?_)
          · skip
            refine lv_aload_n hx hb dX6_write_56 rfl (lv_at hl 0 rfl) ?_
            refine kget X hP oX g_X6_25 rfl dX6_write_57 ?_
            refine lv_aload_n hx hb dX6_write_60 rfl (lv_at hl 0 rfl) ?_
            refine kget X hP oX g_X6_12 rfl dX6_write_61 ?_
            refine kcVv X hP hS (c_X2_record l hI (j := 0) (n := n) (k := k) (L := L) (pi := pi) (by omega) hL hL4 hpi hne hn hn4 hk hk4 hz hy) oH v_X6_44 ⟨Nat.le_of_ble_eq_true rfl, Nat.le_of_ble_eq_true rfl, rfl, rfl⟩ rfl rfl (Nat.le_of_ble_eq_true rfl) hl.1 ⟨Nat.zero_le _, Nat.zero_le _⟩ dX6_write_64 (fun G_64 H locs hR hP hS => ?_)
            have h_64 : rcR G G_64 pi L n k := hR
            have e0 := rcR_0 h_64 hL4 hne
            have er : G_64 (rN 0 r) = G (rN 0 r) := e0 _ (by unfold rN; omega) (by unfold rN; omega) (by unfold rN; omega)
            refine lv_aload hx hb dX6_write_67 (lv_at hl 4 rfl) ?_
            refine lv_iload_n hx hb dX6_write_69 rfl (lv_at hl 2 rfl) ?_
            refine lv_iload_n hx hb dX6_write_70 rfl (lv_at hl 3 rfl) ?_
            refine kcVv X hP hS (c_X3_putWrite l hI (j := 0) (by omega) (by omega) hc) (oR (j := 0) (r := r) (by omega) (by omega)) v_X6_124 ⟨Nat.le_of_ble_eq_true rfl, Nat.le_of_ble_eq_true rfl, rfl, rfl⟩ rfl rfl (Nat.le_of_ble_eq_true rfl) hl.1 ⟨Nat.zero_le _, Nat.zero_le _⟩ dX6_write_71 (fun G_71 H locs hR hP hS => ?_)
            subst hR
            rw [er] at hP
            refine lv_aload hx hb dX6_write_74 (lv_at hl 4 rfl) ?_
            refine kcV X hP hS (c_X3_numberOfWrites l hI (j := 0) (by omega) (by omega)) (oR (j := 0) (r := r) (by omega) (by omega)) v_X6_127 ⟨Nat.le_of_ble_eq_true rfl, Nat.le_of_ble_eq_true rfl, rfl, rfl⟩ rfl rfl (Nat.le_of_ble_eq_true rfl) hl.1 ⟨Nat.zero_le _, Nat.zero_le _⟩ dX6_write_76 (fun r_76 G_76 H locs hR hP hS => ?_)
            obtain ⟨rfl, hG_76⟩ := hR
            rw [hG_76] at hP
            clear hG_76
            exact hret _ _ _ _ _ _ (rdP_h hr hn4 (rdP_h hc (by omega) (by rw [if_pos ⟨Int32.not_lt.mp c_21, c_28⟩, if_pos c_50]; exact ⟨_, h_64, by simp [gs], rfl⟩))) hP hS dX6_write_79
          · skip
            refine lv_bipush (v := (-4)) hx hb dX6_write_53 (by decide) ?_
            exact hret _ _ _ _ _ _ (rdP_h hr hn4 (rdP_h hc (by omega) (by rw [if_pos ⟨Int32.not_lt.mp c_21, c_28⟩, if_neg c_50]; exact ⟨rfl, rfl⟩))) hP hS dX6_write_55
        · skip
          refine lv_bipush (v := (-2)) hx hb dX6_write_31 (by decide) ?_
          exact hret _ _ _ _ _ _ (rdP_h hr hn4 (rdP_h hc (by omega) (by rw [if_neg (fun z => absurd z.2 c_28)]; exact ⟨rfl, rfl⟩))) hP hS dX6_write_33
    · skip
      have hmc := hsR_no (n := 12) (by omega) c_15
      refine lv_iconst (v := (-1)) hx hb dX6_write_18 (by decide) ?_
      exact hret _ _ _ _ _ _ (rdP_h hr hn4 (rdP_m hmc ⟨rfl, rfl⟩)) hP hS dX6_write_19
end
section

theorem rcR_j {G Gr : Nat → Nat → Int32} {pi : Nat → Nat} {L n k j : Nat} (h : rcR G Gr pi L n k) (hL4 : L ≤ 4) (hne : ∀ t, t < 4 → pi t ≠ j) (q : Nat) (h1 : sB j ≤ q) (h2 : q < sB j + 161) : Gr q = G q := by
  have := rotP_all (L := L) (Z := fun q => q ≠ j) hne (rotL_lt hL4)
  exact h.2.2.1 q (by unfold sB at h1; omega) (by unfold sB at h1; omega) (by unfold sB at h1 h2 ⊢; omega)
/-- what removing unseen versions does to state j -/
def ruR (G G' : Nat → Nat → Int32) (j n : Nat) (P : Nat → Nat) (v : Int32) : Prop := v = nI (cn (fun c => P c - (1 + cn (rf (snF G j n P c)) (P c))) 12) ∧ (∀ c, c < 12 → RT G G' j c (P c) (snF G j n P c)) ∧ (∀ f, f ≠ 8 → G' (sB j) f = G (sB j) f) ∧ G' (sB j) 8 = G (sB j) 8 + v ∧ ∀ k, k ≠ sB j → (∀ c, c < 12 → k ≠ cB j c ∧ k ≠ cV j c ∧ k ≠ cM j c) → G' k = G k
/-- a new reader in state 0 -/
def adR (G : Nat → Nat → Int32) (n : Nat) (x : Int32) : Nat → Nat → Int32 := gs (gs (gs (gs (gs (gs (gs (gs (gs G (rN 0 n) 1 0) (rN 0 n) 2 (G (sB 0) 3)) (rN 0 n) 3 x) (rN 0 n) 4 0) (rN 0 n) 5 0) (rN 0 n) 6 0) (rN 0 n) 7 0) (rN 0 n) 8 0) (sB 0) 6 (nI (n + 1))
def cmW (R : Nat → Int32) (y : Int32) : Int32 := if y = nI 0 then R 0 else if y = nI 1 then R 1 else if y = nI 2 then R 2 else if y = nI 3 then R 3 else if y = nI 4 then R 4 else if y = nI 5 then R 5 else -2
set_option maxHeartbeats 4000000 in
set_option maxRecDepth 100000 in
theorem c_X6_widow (l : Launch) {D : va_G} {τ : Nat → ClassId} {ad : Nat → Nat} (hI : kInj ad) {G : Nat → Nat → Int32} {n k L : Nat} {x y : Int32} {pi : Nat → Nat} (hL : G 8 1 = nI L) (hL4 : L ≤ 4) (hpi : ∀ t, t < 4 → G 9 t = nI (pi t) ∧ pi t < 7) (hne : ∀ t, t < 4 → pi t ≠ 0) (hn : G (sB 0) 6 = nI n) (hn4 : n ≤ 40) (hk : G (sB 0) 7 = nI k) (hk4 : k ≤ 40) (hz : ∀ r, r < n → G (rN 0 r) 8 = 0 ∨ G (rN 0 r) 8 = 1) (hy : G (sB 0) 9 = 0 ∨ G (sB 0) 9 = 1) {P : Nat → Nat} (hp : ∀ c, c < 12 → G (cB 0 c) 2 = nI (P c) ∧ 1 ≤ P c ∧ P c ≤ 10) : kM l yX6_widow cX6_widow 5 (some .int) { frames := 4, cells := 0, slots := 0, locals := 104 } D τ ad [.ref (ad 7), .int x, .int y] G (fun v G' => rdP n x (v = -1 ∧ G' = G) (fun r => if nI 1 ≤ y ∧ y ≤ nI 20 then (if G (rN 0 r) 1 = 0 ∧ G (rN 0 r) 8 = 0 then ∃ Gr, rcR G Gr pi L n k ∧ v = dueF Gr 0 n P r ∧ G' = gs (gs Gr (rN 0 r) 8 (nI 1)) (rN 0 r) 6 y else v = -4 ∧ G' = G) else v = -2 ∧ G' = G)) := by
  refine kMet (own := RX6) (by decide) rfl (Nat.le_of_ble_eq_true rfl) ?_
  intro p9 e9 s9 m9 args9 below9 meth9 c9 Q9 X hx hb hP hS hret ls hl
  have hPs := hP
  have hl : lv_has ls 5 [(0, .ref (ad 7)), (1, .int x), (2, .int y)] := hl
  refine lv_aload_n hx hb dX6_widow_0 rfl (lv_at hl 0 rfl) ?_
  refine kget X hP oX g_X6_12 rfl dX6_widow_1 ?_
  refine lv_iload_n hx hb dX6_widow_4 rfl (lv_at hl 1 rfl) ?_
  refine kcV X hP hS (c_X4_hasReader l hI (j := 0) (by omega)) (oS (j := 0) (by omega)) v_X6_51 ⟨Nat.le_of_ble_eq_true rfl, Nat.le_of_ble_eq_true rfl, rfl, rfl⟩ rfl rfl (Nat.le_of_ble_eq_true rfl) hl.1 ⟨Nat.zero_le _, Nat.zero_le _⟩ dX6_widow_5 (fun r_5 G_5 H locs hR hP hS => ?_)
  obtain ⟨rfl, hG_5⟩ := hR
  rw [hG_5] at hP
  clear hG_5
  first
    | refine kif_ne (tgt := 13) hx hb dX6_widow_8 (by decide) (fun c_8 => ?_) (fun c_8 => ?_)
    | refine lv_if_ne (tgt := 13) hx hb dX6_widow_8 (by decide) (fun c_8 => ?_) (fun c_8 => ?_)
  · skip
    obtain ⟨r, hr, rfl⟩ := hsR_yes hn4 (by rw [hn] at c_8; exact c_8)
    refine lv_iload_n hx hb dX6_widow_13 rfl (lv_at hl 2 rfl) ?_
    refine lv_iconst (v := nI 1) hx hb dX6_widow_14 (by decide) ?_
    first
      | refine kic_lt (tgt := 24) hx hb dX6_widow_15 (by decide) (by with_reducible rfl) (by with_reducible rfl) (by omega) (by omega) (fun c_15 => ?_) (fun c_15 => ?_)
      | refine lv_icmp_lt (tgt := 24) hx hb dX6_widow_15 (by decide) (fun c_15 => ?_) (fun c_15 => ?_)
    · skip
      refine lv_bipush (v := (-2)) hx hb dX6_widow_24 (by decide) ?_
      exact hret _ _ _ _ _ _ (rdP_h hr hn4 (by rw [if_neg (fun z => Int32.not_lt.mpr z.1 c_15)]; exact ⟨rfl, rfl⟩)) hP hS dX6_widow_26
    · skip
      refine lv_iload_n hx hb dX6_widow_18 rfl (lv_at hl 2 rfl) ?_
      refine lv_bipush (v := nI 20) hx hb dX6_widow_19 (by decide) ?_
      first
        | refine kic_le (tgt := 27) hx hb dX6_widow_21 (by decide) (by with_reducible rfl) (by with_reducible rfl) (by omega) (by omega) (fun c_21 => ?_) (fun c_21 => ?_)
        | refine lv_icmp_le (tgt := 27) hx hb dX6_widow_21 (by decide) (fun c_21 => ?_) (fun c_21 => ?_)
      · skip
        refine lv_aload_n hx hb dX6_widow_27 rfl (lv_at hl 0 rfl) ?_
        refine kget X hP oX g_X6_12 rfl dX6_widow_28 ?_
        refine kget X hP (oS (j := 0) (by omega)) g_X6_55 rfl dX6_widow_31 ?_
        refine lv_iload_n hx hb dX6_widow_34 rfl (lv_at hl 1 rfl) ?_
        refine kaald X hP (qR (j := 0) (by omega)) (by omega) rfl dX6_widow_35 ?_
        refine kast hx hb dX6_widow_36 rfl hl (by decide) (kp_3_3 rfl) (fun ls hl => ?_)
        refine lv_aload_n hx hb dX6_widow_37 rfl (lv_at hl 3 rfl) ?_
        refine kcV X hP hS (c_X3_isOpen l hI (j := 0) (by omega) (by omega)) (oR (j := 0) (r := r) (by omega) (by omega)) v_X6_59 ⟨Nat.le_of_ble_eq_true rfl, Nat.le_of_ble_eq_true rfl, rfl, rfl⟩ rfl rfl (Nat.le_of_ble_eq_true rfl) hl.1 ⟨Nat.zero_le _, Nat.zero_le _⟩ dX6_widow_38 (fun r_38 G_38 H locs hR hP hS => ?_)
        obtain ⟨rfl, hG_38⟩ := hR
        rw [hG_38] at hP
        clear hG_38
        first
          | refine kif_eq (tgt := 51) hx hb dX6_widow_41 (by decide) (fun c_41 => ?_) (fun c_41 => ?_)
          | refine lv_if_eq (tgt := 51) hx hb dX6_widow_41 (by decide) (fun c_41 => ?_) (fun c_41 => ?_)
        · skip
          refine lv_bipush (v := (-4)) hx hb dX6_widow_51 (by decide) ?_
          exact hret _ _ _ _ _ _ (rdP_h hr hn4 (by rw [if_pos ⟨Int32.not_lt.mp c_15, c_21⟩, if_neg (fun z => c_41 z.1)]; exact ⟨rfl, rfl⟩)) hP hS dX6_widow_53
        · skip
          refine lv_aload_n hx hb dX6_widow_44 rfl (lv_at hl 3 rfl) ?_
          refine kget X hP (oR (j := 0) (r := r) (by omega) (by omega)) g_X6_68 rfl dX6_widow_45 ?_
          first
            | refine kif_eq (tgt := 54) hx hb dX6_widow_48 (by decide) (fun c_48 => ?_) (fun c_48 => ?_)
            | refine lv_if_eq (tgt := 54) hx hb dX6_widow_48 (by decide) (fun c_48 => ?_) (fun c_48 => ?_)
          · skip
            refine lv_aload_n hx hb dX6_widow_54 rfl (lv_at hl 0 rfl) ?_
            refine kget X hP oX g_X6_25 rfl dX6_widow_55 ?_
            refine lv_aload_n hx hb dX6_widow_58 rfl (lv_at hl 0 rfl) ?_
            refine kget X hP oX g_X6_12 rfl dX6_widow_59 ?_
            refine kcVv X hP hS (c_X2_record l hI (j := 0) (n := n) (k := k) (L := L) (pi := pi) (by omega) hL hL4 hpi hne hn hn4 hk hk4 hz hy) oH v_X6_44 ⟨Nat.le_of_ble_eq_true rfl, Nat.le_of_ble_eq_true rfl, rfl, rfl⟩ rfl rfl (Nat.le_of_ble_eq_true rfl) hl.1 ⟨Nat.zero_le _, Nat.zero_le _⟩ dX6_widow_62 (fun G_62 H locs hR hP hS => ?_)
            have h_62 : rcR G G_62 pi L n k := hR
            have e0 := rcR_0 h_62 hL4 hne
            have er : G_62 (rN 0 r) = G (rN 0 r) := e0 _ (by unfold rN; omega) (by unfold rN; omega) (by unfold rN; omega)
            refine lv_aload_n hx hb dX6_widow_65 rfl (lv_at hl 0 rfl) ?_
            refine kget X hP oX g_X6_12 rfl dX6_widow_66 ?_
            refine lv_aload_n hx hb dX6_widow_69 rfl (lv_at hl 3 rfl) ?_
            refine kcV X hP hS (c_X4_dueOf l hI (j := 0) (n := n) (r := r) (P := P) (by omega) (by rw [e0 (sB 0) (by unfold sB; omega) (by unfold sB; omega) (by unfold sB; omega)]; exact hn) hn4 (by omega) (fun c hc => by rw [e0 (cB 0 c) (by unfold cB; omega) (by unfold cB; omega) (by unfold cB; omega)]; exact ⟨(hp c hc).1, (hp c hc).2.2⟩)) (oS (j := 0) (by omega)) v_X6_72 ⟨Nat.le_of_ble_eq_true rfl, Nat.le_of_ble_eq_true rfl, rfl, rfl⟩ rfl rfl (Nat.le_of_ble_eq_true rfl) hl.1 ⟨Nat.zero_le _, Nat.zero_le _⟩ dX6_widow_70 (fun r_70 G_70 H locs hR hP hS => ?_)
            obtain ⟨rfl, hG_70⟩ := hR
            rw [hG_70] at hP
            clear hG_70
            refine kistW hx hb dX6_widow_73 hl (by decide) (kp_4_4 rfl) (fun ls hl => ?_)
            refine lv_aload_n hx hb dX6_widow_75 rfl (lv_at hl 3 rfl) ?_
            refine lv_iconst (v := nI 1) hx hb dX6_widow_76 (by decide) ?_
            refine kput X hI hP hS (oR (j := 0) (r := r) (by omega) (by omega)) g_X6_68 (fun _ => rfl) rfl (fun _ => Nat.le_of_ble_eq_true rfl) rfl rfl dX6_widow_77 (fun H locs hP hS => ?_)
            refine lv_aload_n hx hb dX6_widow_80 rfl (lv_at hl 3 rfl) ?_
            refine lv_iload_n hx hb dX6_widow_81 rfl (lv_at hl 2 rfl) ?_
            refine kput X hI hP hS (oR (j := 0) (r := r) (by omega) (by omega)) g_X6_76 (fun _ => rfl) rfl (fun _ => Nat.le_of_ble_eq_true rfl) rfl rfl dX6_widow_82 (fun H locs hP hS => ?_)
            refine lv_iload hx hb dX6_widow_85 (lv_at hl 4 rfl) ?_
            exact hret _ _ _ _ _ _ (rdP_h hr hn4 (by rw [if_pos ⟨Int32.not_lt.mp c_15, c_21⟩, if_pos ⟨c_41, c_48⟩]; exact ⟨_, h_62, rfl, rfl⟩)) hP hS dX6_widow_87
          · skip
            refine lv_bipush (v := (-4)) hx hb dX6_widow_51 (by decide) ?_
            exact hret _ _ _ _ _ _ (rdP_h hr hn4 (by rw [if_pos ⟨Int32.not_lt.mp c_15, c_21⟩, if_neg (fun z => c_48 z.2)]; exact ⟨rfl, rfl⟩)) hP hS dX6_widow_53
      · skip
        refine lv_bipush (v := (-2)) hx hb dX6_widow_24 (by decide) ?_
        exact hret _ _ _ _ _ _ (rdP_h hr hn4 (by rw [if_neg (fun z => absurd z.2 c_21)]; exact ⟨rfl, rfl⟩)) hP hS dX6_widow_26
  · skip
    have hms := hsR_no hn4 (by rw [hn] at c_8; exact c_8)
    refine lv_iconst (v := (-1)) hx hb dX6_widow_11 (by decide) ?_
    exact hret _ _ _ _ _ _ (rdP_m hms ⟨rfl, rfl⟩) hP hS dX6_widow_12

set_option maxHeartbeats 4000000 in
set_option maxRecDepth 100000 in
theorem c_X6_close (l : Launch) {D : va_G} {τ : Nat → ClassId} {ad : Nat → Nat} (hI : kInj ad) {G : Nat → Nat → Int32} {n k L : Nat} {x : Int32} {pi : Nat → Nat} (hL : G 8 1 = nI L) (hL4 : L ≤ 4) (hpi : ∀ t, t < 4 → G 9 t = nI (pi t) ∧ pi t < 7) (hne : ∀ t, t < 4 → pi t ≠ 0) (hn : G (sB 0) 6 = nI n) (hn4 : n ≤ 40) (hk : G (sB 0) 7 = nI k) (hk4 : k ≤ 40) (hz : ∀ r, r < n → G (rN 0 r) 8 = 0 ∨ G (rN 0 r) 8 = 1) (hy : G (sB 0) 9 = 0 ∨ G (sB 0) 9 = 1) {P : Nat → Nat} (hp : ∀ c, c < 12 → G (cB 0 c) 2 = nI (P c) ∧ 1 ≤ P c ∧ P c ≤ 10) : kM l yX6_close cX6_close 3 (some .int) { frames := 4, cells := 0, slots := 0, locals := 104 } D τ ad [.ref (ad 7), .int x] G (fun v G' => rdP n x (v = -1 ∧ G' = G) (fun r => if G (rN 0 r) 1 = 0 then ∃ Gr, rcR G Gr pi L n k ∧ ruR (gs Gr (rN 0 r) 1 (nI 2)) G' 0 n P v else v = -4 ∧ G' = G)) := by
  refine kMet (own := RX6) (by decide) rfl (Nat.le_of_ble_eq_true rfl) ?_
  intro p9 e9 s9 m9 args9 below9 meth9 c9 Q9 X hx hb hP hS hret ls hl
  have hPs := hP
  have hl : lv_has ls 3 [(0, .ref (ad 7)), (1, .int x)] := hl
  refine lv_aload_n hx hb dX6_close_0 rfl (lv_at hl 0 rfl) ?_
  refine kget X hP oX g_X6_12 rfl dX6_close_1 ?_
  refine lv_iload_n hx hb dX6_close_4 rfl (lv_at hl 1 rfl) ?_
  refine kcV X hP hS (c_X4_hasReader l hI (j := 0) (by omega)) (oS (j := 0) (by omega)) v_X6_51 ⟨Nat.le_of_ble_eq_true rfl, Nat.le_of_ble_eq_true rfl, rfl, rfl⟩ rfl rfl (Nat.le_of_ble_eq_true rfl) hl.1 ⟨Nat.zero_le _, Nat.zero_le _⟩ dX6_close_5 (fun r_5 G_5 H locs hR hP hS => ?_)
  obtain ⟨rfl, hG_5⟩ := hR
  rw [hG_5] at hP
  clear hG_5
  first
    | refine kif_ne (tgt := 13) hx hb dX6_close_8 (by decide) (fun c_8 => ?_) (fun c_8 => ?_)
    | refine lv_if_ne (tgt := 13) hx hb dX6_close_8 (by decide) (fun c_8 => ?_) (fun c_8 => ?_)
  · skip
    obtain ⟨r, hr, rfl⟩ := hsR_yes hn4 (by rw [hn] at c_8; exact c_8)
    refine lv_aload_n hx hb dX6_close_13 rfl (lv_at hl 0 rfl) ?_
    refine kget X hP oX g_X6_12 rfl dX6_close_14 ?_
    refine kget X hP (oS (j := 0) (by omega)) g_X6_55 rfl dX6_close_17 ?_
    refine lv_iload_n hx hb dX6_close_20 rfl (lv_at hl 1 rfl) ?_
    refine kaald X hP (qR (j := 0) (by omega)) (by omega) rfl dX6_close_21 ?_
    refine kast hx hb dX6_close_22 rfl hl (by decide) (kp_2_2 rfl) (fun ls hl => ?_)
    refine lv_aload_n hx hb dX6_close_23 rfl (lv_at hl 2 rfl) ?_
    refine kcV X hP hS (c_X3_isOpen l hI (j := 0) (by omega) (by omega)) (oR (j := 0) (r := r) (by omega) (by omega)) v_X6_59 ⟨Nat.le_of_ble_eq_true rfl, Nat.le_of_ble_eq_true rfl, rfl, rfl⟩ rfl rfl (Nat.le_of_ble_eq_true rfl) hl.1 ⟨Nat.zero_le _, Nat.zero_le _⟩ dX6_close_24 (fun r_24 G_24 H locs hR hP hS => ?_)
    obtain ⟨rfl, hG_24⟩ := hR
    rw [hG_24] at hP
    clear hG_24
    first
      | refine kif_ne (tgt := 33) hx hb dX6_close_27 (by decide) (fun c_27 => ?_) (fun c_27 => ?_)
      | refine lv_if_ne (tgt := 33) hx hb dX6_close_27 (by decide) (fun c_27 => ?_) (fun c_27 => ?_)
    · skip
      refine lv_aload_n hx hb dX6_close_33 rfl (lv_at hl 0 rfl) ?_
      refine kget X hP oX g_X6_25 rfl dX6_close_34 ?_
      refine lv_aload_n hx hb dX6_close_37 rfl (lv_at hl 0 rfl) ?_
      refine kget X hP oX g_X6_12 rfl dX6_close_38 ?_
      refine kcVv X hP hS (c_X2_record l hI (j := 0) (n := n) (k := k) (L := L) (pi := pi) (by omega) hL hL4 hpi hne hn hn4 hk hk4 hz hy) oH v_X6_44 ⟨Nat.le_of_ble_eq_true rfl, Nat.le_of_ble_eq_true rfl, rfl, rfl⟩ rfl rfl (Nat.le_of_ble_eq_true rfl) hl.1 ⟨Nat.zero_le _, Nat.zero_le _⟩ dX6_close_41 (fun G_41 H locs hR hP hS => ?_)
      have h_41 : rcR G G_41 pi L n k := hR
      have e0 := rcR_0 h_41 hL4 hne
      have er : G_41 (rN 0 r) = G (rN 0 r) := e0 _ (by unfold rN; omega) (by unfold rN; omega) (by unfold rN; omega)
      refine lv_aload_n hx hb dX6_close_44 rfl (lv_at hl 2 rfl) ?_
      refine lv_iconst (v := nI 2) hx hb dX6_close_45 (by decide) ?_
      refine kput X hI hP hS (oR (j := 0) (r := r) (by omega) (by omega)) g_X6_79 (fun _ => rfl) rfl (fun _ => Nat.le_of_ble_eq_true rfl) rfl rfl dX6_close_46 (fun H locs hP hS => ?_)
      refine lv_aload_n hx hb dX6_close_49 rfl (lv_at hl 0 rfl) ?_
      refine kget X hP oX g_X6_12 rfl dX6_close_50 ?_
      refine kcV X hP hS (c_X4_removeUnseen l hI (j := 0) (n := n) (P := P) (by omega) (by rw [gs_other (by unfold sB rN; omega), e0 (sB 0) (by unfold sB; omega) (by unfold sB; omega) (by unfold sB; omega)]; exact hn) hn4 (fun c hc => by rw [gs_other (by unfold cB rN; omega), e0 (cB 0 c) (by unfold cB; omega) (by unfold cB; omega) (by unfold cB; omega)]; exact hp c hc)) (oS (j := 0) (by omega)) v_X6_82 ⟨Nat.le_of_ble_eq_true rfl, Nat.le_of_ble_eq_true rfl, rfl, rfl⟩ rfl rfl (Nat.le_of_ble_eq_true rfl) hl.1 ⟨Nat.zero_le _, Nat.zero_le _⟩ dX6_close_53 (fun r_53 G_53 H locs hR hP hS => ?_)
      have h_53 := hR
      exact hret _ _ _ _ _ _ (rdP_h hr hn4 (by rw [if_pos c_27]; exact ⟨_, h_41, h_53⟩)) hP hS dX6_close_56
    · skip
      refine lv_bipush (v := (-4)) hx hb dX6_close_30 (by decide) ?_
      exact hret _ _ _ _ _ _ (rdP_h hr hn4 (by rw [if_neg c_27]; exact ⟨rfl, rfl⟩)) hP hS dX6_close_32
  · skip
    have hms := hsR_no hn4 (by rw [hn] at c_8; exact c_8)
    refine lv_iconst (v := (-1)) hx hb dX6_close_11 (by decide) ?_
    exact hret _ _ _ _ _ _ (rdP_m hms ⟨rfl, rfl⟩) hP hS dX6_close_12

set_option maxHeartbeats 4000000 in
set_option maxRecDepth 100000 in
theorem c_X6_read (l : Launch) {D : va_G} {τ : Nat → ClassId} {ad : Nat → Nat} (hI : kInj ad) {G : Nat → Nat → Int32} {n k L : Nat} {x y : Int32} {pi : Nat → Nat} (hL : G 8 1 = nI L) (hL4 : L ≤ 4) (hpi : ∀ t, t < 4 → G 9 t = nI (pi t) ∧ pi t < 7) (hne : ∀ t, t < 4 → pi t ≠ 0) (hn : G (sB 0) 6 = nI n) (hn4 : n ≤ 40) (hk : G (sB 0) 7 = nI k) (hk4 : k ≤ 40) (hz : ∀ r, r < n → G (rN 0 r) 8 = 0 ∨ G (rN 0 r) 8 = 1) (hy : G (sB 0) 9 = 0 ∨ G (sB 0) 9 = 1) {P : Nat → Nat} (hp : ∀ c, c < 12 → G (cB 0 c) 2 = nI (P c) ∧ 1 ≤ P c ∧ P c ≤ 10) : kM l yX6_read cX6_read 4 (some .int) { frames := 4, cells := 0, slots := 0, locals := 104 } D τ ad [.ref (ad 7), .int x, .int y] G (fun v G' => rdP n x (v = -1 ∧ G' = G) (fun r => rdP 12 y (v = -1 ∧ G' = G) (fun c => if G (rN 0 r) 1 = 0 then ∃ Gr, rcR G Gr pi L n k ∧ (if hw (G (rN 0 r) 5) c then v = G (rW 0 r) c ∧ G' = Gr else v = vsF (G (cV 0 c)) (G (cM 0 c)) (G (rN 0 r) 2) (P c) ∧ G' = gs Gr (rN 0 r) 4 (G (rN 0 r) 4 ||| bt c)) else v = -4 ∧ G' = G))) := by
  refine kMet (own := RX6) (by decide) rfl (Nat.le_of_ble_eq_true rfl) ?_
  intro p9 e9 s9 m9 args9 below9 meth9 c9 Q9 X hx hb hP hS hret ls hl
  have hPs := hP
  have hl : lv_has ls 4 [(0, .ref (ad 7)), (1, .int x), (2, .int y)] := hl
  refine lv_aload_n hx hb dX6_read_0 rfl (lv_at hl 0 rfl) ?_
  refine kget X hP oX g_X6_12 rfl dX6_read_1 ?_
  refine lv_iload_n hx hb dX6_read_4 rfl (lv_at hl 1 rfl) ?_
  refine kcV X hP hS (c_X4_hasReader l hI (j := 0) (by omega)) (oS (j := 0) (by omega)) v_X6_51 ⟨Nat.le_of_ble_eq_true rfl, Nat.le_of_ble_eq_true rfl, rfl, rfl⟩ rfl rfl (Nat.le_of_ble_eq_true rfl) hl.1 ⟨Nat.zero_le _, Nat.zero_le _⟩ dX6_read_5 (fun r_5 G_5 H locs hR hP hS => ?_)
  obtain ⟨rfl, hG_5⟩ := hR
  rw [hG_5] at hP
  clear hG_5
  first
    | refine kif_eq (tgt := 18) hx hb dX6_read_8 (by decide) (fun c_8 => ?_) (fun c_8 => ?_)
    | refine lv_if_eq (tgt := 18) hx hb dX6_read_8 (by decide) (fun c_8 => ?_) (fun c_8 => ?_)
  · skip
    have hms := hsR_no hn4 (by rw [hn] at c_8; exact c_8)
    refine lv_iconst (v := (-1)) hx hb dX6_read_18 (by decide) ?_
    exact hret _ _ _ _ _ _ (rdP_m hms ⟨rfl, rfl⟩) hP hS dX6_read_19
  · skip
    obtain ⟨r, hr, rfl⟩ := hsR_yes hn4 (by rw [hn] at c_8; exact c_8)
    refine lv_iload_n hx hb dX6_read_11 rfl (lv_at hl 2 rfl) ?_
    refine kcS X hP hS (c_X6_isCell l hI) v_X6_99 ⟨Nat.le_of_ble_eq_true rfl, Nat.le_of_ble_eq_true rfl, rfl, rfl⟩ rfl rfl (Nat.le_of_ble_eq_true rfl) hl.1 ⟨Nat.zero_le _, Nat.zero_le _⟩ dX6_read_12 (fun r_12 G_12 H locs hR hP hS => ?_)
    obtain ⟨rfl, hG_12⟩ := hR
    rw [hG_12] at hP
    clear hG_12
    first
      | refine kif_ne (tgt := 20) hx hb dX6_read_15 (by decide) (fun c_15 => ?_) (fun c_15 => ?_)
      | refine lv_if_ne (tgt := 20) hx hb dX6_read_15 (by decide) (fun c_15 => ?_) (fun c_15 => ?_)
    · skip
      obtain ⟨c, hc, rfl⟩ := hsR_yes (n := 12) (by omega) c_15
      refine lv_aload_n hx hb dX6_read_20 rfl (lv_at hl 0 rfl) ?_
      refine kget X hP oX g_X6_12 rfl dX6_read_21 ?_
      refine kget X hP (oS (j := 0) (by omega)) g_X6_55 rfl dX6_read_24 ?_
      refine lv_iload_n hx hb dX6_read_27 rfl (lv_at hl 1 rfl) ?_
      refine kaald X hP (qR (j := 0) (by omega)) (by omega) rfl dX6_read_28 ?_
      refine kast hx hb dX6_read_29 rfl hl (by decide) (kp_3_3 rfl) (fun ls hl => ?_)
      refine lv_aload_n hx hb dX6_read_30 rfl (lv_at hl 3 rfl) ?_
      refine kcV X hP hS (c_X3_isOpen l hI (j := 0) (by omega) (by omega)) (oR (j := 0) (r := r) (by omega) (by omega)) v_X6_59 ⟨Nat.le_of_ble_eq_true rfl, Nat.le_of_ble_eq_true rfl, rfl, rfl⟩ rfl rfl (Nat.le_of_ble_eq_true rfl) hl.1 ⟨Nat.zero_le _, Nat.zero_le _⟩ dX6_read_31 (fun r_31 G_31 H locs hR hP hS => ?_)
      obtain ⟨rfl, hG_31⟩ := hR
      rw [hG_31] at hP
      clear hG_31
      first
        | refine kif_ne (tgt := 40) hx hb dX6_read_34 (by decide) (fun c_34 => ?_) (fun c_34 => ?_)
        | refine lv_if_ne (tgt := 40) hx hb dX6_read_34 (by decide) (fun c_34 => ?_) (fun c_34 => ?_)
      · skip
        refine lv_aload_n hx hb dX6_read_40 rfl (lv_at hl 0 rfl) ?_
        refine kget X hP oX g_X6_25 rfl dX6_read_41 ?_
        refine lv_aload_n hx hb dX6_read_44 rfl (lv_at hl 0 rfl) ?_
        refine kget X hP oX g_X6_12 rfl dX6_read_45 ?_
        refine kcVv X hP hS (c_X2_record l hI (j := 0) (n := n) (k := k) (L := L) (pi := pi) (by omega) hL hL4 hpi hne hn hn4 hk hk4 hz hy) oH v_X6_44 ⟨Nat.le_of_ble_eq_true rfl, Nat.le_of_ble_eq_true rfl, rfl, rfl⟩ rfl rfl (Nat.le_of_ble_eq_true rfl) hl.1 ⟨Nat.zero_le _, Nat.zero_le _⟩ dX6_read_48 (fun G_48 H locs hR hP hS => ?_)
        have h_48 : rcR G G_48 pi L n k := hR
        have e0 := rcR_0 h_48 hL4 hne
        have er : G_48 (rN 0 r) = G (rN 0 r) := e0 _ (by unfold rN; omega) (by unfold rN; omega) (by unfold rN; omega)
        refine lv_aload_n hx hb dX6_read_51 rfl (lv_at hl 3 rfl) ?_
        refine lv_iload_n hx hb dX6_read_52 rfl (lv_at hl 2 rfl) ?_
        refine kcV X hP hS (c_X3_hasWrite l hI (j := 0) (k := c) (by omega) (by omega)) (oR (j := 0) (r := r) (by omega) (by omega)) v_X6_102 ⟨Nat.le_of_ble_eq_true rfl, Nat.le_of_ble_eq_true rfl, rfl, rfl⟩ rfl rfl (Nat.le_of_ble_eq_true rfl) hl.1 ⟨Nat.zero_le _, Nat.zero_le _⟩ dX6_read_53 (fun r_53 G_53 H locs hR hP hS => ?_)
        obtain ⟨rfl, hG_53⟩ := hR
        rw [hG_53] at hP
        clear hG_53
        rw [er]
        first
          | refine kif_eq (tgt := 66) hx hb dX6_read_56 (by decide) (fun c_56 => ?_) (fun c_56 => ?_)
          | refine lv_if_eq (tgt := 66) hx hb dX6_read_56 (by decide) (fun c_56 => ?_) (fun c_56 => ?_)
        · skip
          refine lv_aload_n hx hb dX6_read_66 rfl (lv_at hl 3 rfl) ?_
          refine lv_dup hx hb dX6_read_67 rfl ?_
          refine kget X hP (oR (j := 0) (r := r) (by omega) (by omega)) g_X6_109 rfl dX6_read_68 ?_
          rw [er]
          refine lv_iconst (v := nI 1) hx hb dX6_read_71 (by decide) ?_
          refine lv_iload_n hx hb dX6_read_72 rfl (lv_at hl 2 rfl) ?_
          refine lv_ishl hx hb dX6_read_73 ?_
          refine lv_ior hx hb dX6_read_74 ?_
          refine kput X hI hP hS (oR (j := 0) (r := r) (by omega) (by omega)) g_X6_109 (fun _ => rfl) rfl (fun _ => Nat.le_of_ble_eq_true rfl) rfl rfl dX6_read_75 (fun H locs hP hS => ?_)
          refine lv_aload_n hx hb dX6_read_78 rfl (lv_at hl 0 rfl) ?_
          refine kget X hP oX g_X6_12 rfl dX6_read_79 ?_
          refine kget X hP (oS (j := 0) (by omega)) g_X6_112 rfl dX6_read_82 ?_
          refine lv_iload_n hx hb dX6_read_85 rfl (lv_at hl 2 rfl) ?_
          refine kaald X hP (qC (j := 0) (by omega)) (by omega) rfl dX6_read_86 ?_
          refine lv_aload_n hx hb dX6_read_87 rfl (lv_at hl 3 rfl) ?_
          refine kget X hP (oR (j := 0) (r := r) (by omega) (by omega)) g_X6_116 rfl dX6_read_88 ?_
          refine kcV X hP hS (c_X0_valueSeenAt l hI (j := 0) (c := c) (P := P c) (by omega) hc (by rw [gs_other (by unfold cB rN; omega), e0 (cB 0 c) (by unfold cB; omega) (by unfold cB; omega) (by unfold cB; omega)]; exact (hp c hc).1) (hp c hc).2.2) (oC (j := 0) (c := c) (by omega) hc) v_X6_119 ⟨Nat.le_of_ble_eq_true rfl, Nat.le_of_ble_eq_true rfl, rfl, rfl⟩ rfl rfl (Nat.le_of_ble_eq_true rfl) hl.1 ⟨Nat.zero_le _, Nat.zero_le _⟩ dX6_read_91 (fun r_91 G_91 H locs hR hP hS => ?_)
          obtain ⟨rfl, hG_91⟩ := hR
          rw [hG_91] at hP
          clear hG_91
          exact hret _ _ _ _ _ _ (rdP_h hr hn4 (rdP_h hc (by omega) (by rw [if_pos c_34]; exact ⟨_, h_48, by rw [if_neg c_56]; exact ⟨by rw [gs_other (k := rN 0 r) (by unfold cV rN; omega), gs_other (k := rN 0 r) (by unfold cM rN; omega), gs_row (by omega), er, e0 (cV 0 c) (by unfold cV; omega) (by unfold cV; omega) (by unfold cV; omega), e0 (cM 0 c) (by unfold cM; omega) (by unfold cM; omega) (by unfold cM; omega)], rfl⟩⟩))) hP hS dX6_read_94
        · skip
          refine lv_aload_n hx hb dX6_read_59 rfl (lv_at hl 3 rfl) ?_
          refine kget X hP (oR (j := 0) (r := r) (by omega) (by omega)) g_X6_105 rfl dX6_read_60 ?_
          refine lv_iload_n hx hb dX6_read_63 rfl (lv_at hl 2 rfl) ?_
          refine kiald X hP (aW (j := 0) (r := r) (by omega) (by omega)) (by omega) dX6_read_64 ?_
          exact hret _ _ _ _ _ _ (rdP_h hr hn4 (rdP_h hc (by omega) (by rw [if_pos c_34]; exact ⟨_, h_48, by rw [if_pos c_56]; exact ⟨by rw [e0 (rW 0 r) (by unfold rW; omega) (by unfold rW; omega) (by unfold rW; omega)], rfl⟩⟩))) hP hS dX6_read_65
      · skip
        refine lv_bipush (v := (-4)) hx hb dX6_read_37 (by decide) ?_
        exact hret _ _ _ _ _ _ (rdP_h hr hn4 (rdP_h hc (by omega) (by rw [if_neg c_34]; exact ⟨rfl, rfl⟩))) hP hS dX6_read_39
    · skip
      have hmc := hsR_no (n := 12) (by omega) c_15
      refine lv_iconst (v := (-1)) hx hb dX6_read_18 (by decide) ?_
      exact hret _ _ _ _ _ _ (rdP_h hr hn4 (rdP_m hmc ⟨rfl, rfl⟩)) hP hS dX6_read_19

set_option maxHeartbeats 4000000 in
set_option maxRecDepth 100000 in
theorem c_X6_open (l : Launch) {D : va_G} {τ : Nat → ClassId} {ad : Nat → Nat} (hI : kInj ad) {G : Nat → Nat → Int32} {n k L : Nat} {y : Int32} {pi : Nat → Nat} (hL : G 8 1 = nI L) (hL4 : L ≤ 4) (hpi : ∀ t, t < 4 → G 9 t = nI (pi t) ∧ pi t < 7) (hne : ∀ t, t < 4 → pi t ≠ 0) (hn : G (sB 0) 6 = nI n) (hn4 : n ≤ 40) (hk : G (sB 0) 7 = nI k) (hk4 : k ≤ 40) (hz : ∀ r, r < n → G (rN 0 r) 8 = 0 ∨ G (rN 0 r) 8 = 1) (hy : G (sB 0) 9 = 0 ∨ G (sB 0) 9 = 1) : kM l yX6_open cX6_open 2 (some .int) { frames := 4, cells := 0, slots := 0, locals := 104 } D τ ad [.ref (ad 7), .int y] G (fun v G' => if nI 0 ≤ y ∧ y ≤ nI 9999 then (if n = 40 ∨ 8 ≤ cn (fun i => if G (rN 0 i) 1 = nI 0 then 1 else 0) n then v = -3 ∧ G' = G else ∃ Gr, rcR G Gr pi L n k ∧ v = nI n ∧ G' = adR Gr n y) else v = -2 ∧ G' = G) := by
  refine kMet (own := RX6) (by decide) rfl (Nat.le_of_ble_eq_true rfl) ?_
  intro p9 e9 s9 m9 args9 below9 meth9 c9 Q9 X hx hb hP hS hret ls hl
  have hPs := hP
  have hl : lv_has ls 2 [(0, .ref (ad 7)), (1, .int y)] := hl
  refine lv_iload_n hx hb dX6_open_0 rfl (lv_at hl 1 rfl) ?_
  refine lv_if_lt (tgt := 11) hx hb dX6_open_1 (by decide) (fun c_1 => ?_) (fun c_1 => ?_)
  · skip
    refine lv_bipush (v := (-2)) hx hb dX6_open_11 (by decide) ?_
    exact hret _ _ _ _ _ _ (by rw [if_neg (fun z => Int32.not_lt.mpr z.1 c_1)]; exact ⟨rfl, rfl⟩) hP hS dX6_open_13
  · skip
    refine lv_iload_n hx hb dX6_open_4 rfl (lv_at hl 1 rfl) ?_
    refine lv_sipush (v := nI 9999) hx hb dX6_open_5 (by decide) ?_
    first
      | refine kic_le (tgt := 14) hx hb dX6_open_8 (by decide) (by with_reducible rfl) (by with_reducible rfl) (by omega) (by omega) (fun c_8 => ?_) (fun c_8 => ?_)
      | refine lv_icmp_le (tgt := 14) hx hb dX6_open_8 (by decide) (fun c_8 => ?_) (fun c_8 => ?_)
    · skip
      refine lv_aload_n hx hb dX6_open_14 rfl (lv_at hl 0 rfl) ?_
      refine kget X hP oX g_X6_12 rfl dX6_open_15 ?_
      refine kget X hP (oS (j := 0) (by omega)) g_X6_36 (congrArg (fun z => some (Value.int z)) hn) dX6_open_18 ?_
      refine lv_bipush (v := nI 40) hx hb dX6_open_21 (by decide) ?_
      first
        | refine kic_ge (tgt := 39) hx hb dX6_open_23 (by decide) (by with_reducible rfl) (by with_reducible rfl) (by omega) (by omega) (fun c_23 => ?_) (fun c_23 => ?_)
        | refine lv_icmp_ge (tgt := 39) hx hb dX6_open_23 (by decide) (fun c_23 => ?_) (fun c_23 => ?_)
      · skip
        refine lv_bipush (v := (-3)) hx hb dX6_open_39 (by decide) ?_
        exact hret _ _ _ _ _ _ (by rw [if_pos ⟨Int32.not_lt.mp c_1, c_8⟩, if_pos (Or.inl (by omega))]; exact ⟨rfl, rfl⟩) hP hS dX6_open_41
      · skip
        refine lv_aload_n hx hb dX6_open_26 rfl (lv_at hl 0 rfl) ?_
        refine kget X hP oX g_X6_12 rfl dX6_open_27 ?_
        refine lv_iconst (v := nI 0) hx hb dX6_open_30 (by decide) ?_
        refine kcV X hP hS (c_X4_readersIn l hI (j := 0) (by omega) hn hn4) (oS (j := 0) (by omega)) v_X6_40 ⟨Nat.le_of_ble_eq_true rfl, Nat.le_of_ble_eq_true rfl, rfl, rfl⟩ rfl rfl (Nat.le_of_ble_eq_true rfl) hl.1 ⟨Nat.zero_le _, Nat.zero_le _⟩ dX6_open_31 (fun r_31 G_31 H locs hR hP hS => ?_)
        obtain ⟨rfl, hG_31⟩ := hR
        rw [hG_31] at hP
        clear hG_31
        have hcn := cn_le (f := fun i => if G (rN 0 i) 1 = nI 0 then 1 else 0) (n := n) (fun i _ => by split <;> omega)
        refine lv_bipush (v := nI 8) hx hb dX6_open_34 (by decide) ?_
        first
          | refine kic_lt (tgt := 42) hx hb dX6_open_36 (by decide) (by with_reducible rfl) (by with_reducible rfl) (by omega) (by omega) (fun c_36 => ?_) (fun c_36 => ?_)
          | refine lv_icmp_lt (tgt := 42) hx hb dX6_open_36 (by decide) (fun c_36 => ?_) (fun c_36 => ?_)
        · skip
          refine lv_aload_n hx hb dX6_open_42 rfl (lv_at hl 0 rfl) ?_
          refine kget X hP oX g_X6_25 rfl dX6_open_43 ?_
          refine lv_aload_n hx hb dX6_open_46 rfl (lv_at hl 0 rfl) ?_
          refine kget X hP oX g_X6_12 rfl dX6_open_47 ?_
          refine kcVv X hP hS (c_X2_record l hI (j := 0) (n := n) (k := k) (L := L) (pi := pi) (by omega) hL hL4 hpi hne hn hn4 hk hk4 hz hy) oH v_X6_44 ⟨Nat.le_of_ble_eq_true rfl, Nat.le_of_ble_eq_true rfl, rfl, rfl⟩ rfl rfl (Nat.le_of_ble_eq_true rfl) hl.1 ⟨Nat.zero_le _, Nat.zero_le _⟩ dX6_open_50 (fun G_50 H locs hR hP hS => ?_)
          have h_50 : rcR G G_50 pi L n k := hR
          have e0 := rcR_0 h_50 hL4 hne
          refine lv_aload_n hx hb dX6_open_53 rfl (lv_at hl 0 rfl) ?_
          refine kget X hP oX g_X6_12 rfl dX6_open_54 ?_
          refine lv_iload_n hx hb dX6_open_57 rfl (lv_at hl 1 rfl) ?_
          refine kcV X hP hS (c_X4_addReader l hI (j := 0) (n := n) (by omega) (by rw [e0 (sB 0) (by unfold sB; omega) (by unfold sB; omega) (by unfold sB; omega)]; exact hn) (by omega)) (oS (j := 0) (by omega)) v_X6_48 ⟨Nat.le_of_ble_eq_true rfl, Nat.le_of_ble_eq_true rfl, rfl, rfl⟩ rfl rfl (Nat.le_of_ble_eq_true rfl) hl.1 ⟨Nat.zero_le _, Nat.zero_le _⟩ dX6_open_58 (fun r_58 G_58 H locs hR hP hS => ?_)
          have h_58 := hR
          exact hret _ _ _ _ _ _ (by rw [if_pos ⟨Int32.not_lt.mp c_1, c_8⟩, if_neg (by omega)]; exact ⟨_, h_50, h_58⟩) hP hS dX6_open_61
        · skip
          refine lv_bipush (v := (-3)) hx hb dX6_open_39 (by decide) ?_
          exact hret _ _ _ _ _ _ (by rw [if_pos ⟨Int32.not_lt.mp c_1, c_8⟩, if_pos (Or.inr (by omega))]; exact ⟨rfl, rfl⟩) hP hS dX6_open_41
    · skip
      refine lv_bipush (v := (-2)) hx hb dX6_open_11 (by decide) ?_
      exact hret _ _ _ _ _ _ (by rw [if_neg (fun z => absurd z.2 c_8)]; exact ⟨rfl, rfl⟩) hP hS dX6_open_13

set_option maxHeartbeats 4000000 in
set_option maxRecDepth 100000 in
theorem c_X6_committed (l : Launch) {D : va_G} {τ : Nat → ClassId} {ad : Nat → Nat} (hI : kInj ad) {G : Nat → Nat → Int32} {k : Nat} {x y : Int32} (hk : G (sB 0) 7 = nI k) (hk4 : k ≤ 40) : kM l yX6_committed cX6_committed 4 (some .int) { frames := 0, cells := 0, slots := 0, locals := 0 } D τ ad [.ref (ad 7), .int x, .int y] G (fun v G' => G' = G ∧ rdP k x (v = -1) (fun q => v = cmW (G (mC 0 q)) y)) := by
  refine kMet (own := RX6) (by decide) rfl (Nat.le_of_ble_eq_true rfl) ?_
  intro p9 e9 s9 m9 args9 below9 meth9 c9 Q9 X hx hb hP hS hret ls hl
  have hPs := hP
  have hl : lv_has ls 4 [(0, .ref (ad 7)), (1, .int x), (2, .int y)] := hl
  refine lv_iload_n hx hb dX6_committed_0 rfl (lv_at hl 1 rfl) ?_
  refine lv_if_lt (tgt := 15) hx hb dX6_committed_1 (by decide) (fun c_1 => ?_) (fun c_1 => ?_)
  · skip
    refine lv_iconst (v := (-1)) hx hb dX6_committed_15 (by decide) ?_
    exact hret _ _ _ _ _ _ (⟨rfl, rdP_m (hsR_no hk4 (fun z => Int32.not_lt.mpr z.1 c_1)) rfl⟩) hP hS dX6_committed_16
  · skip
    refine lv_iload_n hx hb dX6_committed_4 rfl (lv_at hl 1 rfl) ?_
    refine lv_aload_n hx hb dX6_committed_5 rfl (lv_at hl 0 rfl) ?_
    refine kget X hP oX g_X6_12 rfl dX6_committed_6 ?_
    refine kget X hP (oS (j := 0) (by omega)) g_X6_210 (congrArg (fun z => some (Value.int z)) hk) dX6_committed_9 ?_
    first
      | refine kic_lt (tgt := 17) hx hb dX6_committed_12 (by decide) (by with_reducible rfl) (by with_reducible rfl) (by omega) (by omega) (fun c_12 => ?_) (fun c_12 => ?_)
      | refine lv_icmp_lt (tgt := 17) hx hb dX6_committed_12 (by decide) (fun c_12 => ?_) (fun c_12 => ?_)
    · skip
      obtain ⟨r, hr, rfl⟩ := hsR_yes hk4 ⟨Int32.not_lt.mp c_1, c_12⟩
      refine lv_aload_n hx hb dX6_committed_17 rfl (lv_at hl 0 rfl) ?_
      refine kget X hP oX g_X6_12 rfl dX6_committed_18 ?_
      refine kget X hP (oS (j := 0) (by omega)) g_X6_213 rfl dX6_committed_21 ?_
      refine lv_iload_n hx hb dX6_committed_24 rfl (lv_at hl 1 rfl) ?_
      refine kaald X hP (qM (j := 0) (by omega)) (by omega) rfl dX6_committed_25 ?_
      refine kast hx hb dX6_committed_26 rfl hl (by decide) (kp_3_3 rfl) (fun ls hl => ?_)
      refine lv_iload_n hx hb dX6_committed_27 rfl (lv_at hl 2 rfl) ?_
      by_cases q_0 : y = nI 0
      · skip
        subst q_0
        refine lv_tableIn (off := 40) (tgt := 68) hx hb dX6_committed_28 (by decide) (by decide) rfl (by decide) ?_
        refine lv_aload_n hx hb dX6_committed_68 rfl (lv_at hl 3 rfl) ?_
        refine kget X hP (oM (j := 0) (q := r) (by omega) (by omega)) g_X6_217 rfl dX6_committed_69 ?_
        exact hret _ _ _ _ _ _ (⟨rfl, rdP_h hr hk4 (by rw [cmW, if_pos (rfl : nI 0 = nI 0)])⟩) hP hS dX6_committed_72
      by_cases q_1 : y = nI 1
      · skip
        subst q_1
        refine lv_tableIn (off := 45) (tgt := 73) hx hb dX6_committed_28 (by decide) (by decide) rfl (by decide) ?_
        refine lv_aload_n hx hb dX6_committed_73 rfl (lv_at hl 3 rfl) ?_
        refine kget X hP (oM (j := 0) (q := r) (by omega) (by omega)) g_X6_222 rfl dX6_committed_74 ?_
        exact hret _ _ _ _ _ _ (⟨rfl, rdP_h hr hk4 (by rw [cmW, if_neg q_0, if_pos (rfl : nI 1 = nI 1)])⟩) hP hS dX6_committed_77
      by_cases q_2 : y = nI 2
      · skip
        subst q_2
        refine lv_tableIn (off := 50) (tgt := 78) hx hb dX6_committed_28 (by decide) (by decide) rfl (by decide) ?_
        refine lv_aload_n hx hb dX6_committed_78 rfl (lv_at hl 3 rfl) ?_
        refine kget X hP (oM (j := 0) (q := r) (by omega) (by omega)) g_X6_225 rfl dX6_committed_79 ?_
        exact hret _ _ _ _ _ _ (⟨rfl, rdP_h hr hk4 (by rw [cmW, if_neg q_0, if_neg q_1, if_pos (rfl : nI 2 = nI 2)])⟩) hP hS dX6_committed_82
      by_cases q_3 : y = nI 3
      · skip
        subst q_3
        refine lv_tableIn (off := 55) (tgt := 83) hx hb dX6_committed_28 (by decide) (by decide) rfl (by decide) ?_
        refine lv_aload_n hx hb dX6_committed_83 rfl (lv_at hl 3 rfl) ?_
        refine kget X hP (oM (j := 0) (q := r) (by omega) (by omega)) g_X6_228 rfl dX6_committed_84 ?_
        exact hret _ _ _ _ _ _ (⟨rfl, rdP_h hr hk4 (by rw [cmW, if_neg q_0, if_neg q_1, if_neg q_2, if_pos (rfl : nI 3 = nI 3)])⟩) hP hS dX6_committed_87
      by_cases q_4 : y = nI 4
      · skip
        subst q_4
        refine lv_tableIn (off := 60) (tgt := 88) hx hb dX6_committed_28 (by decide) (by decide) rfl (by decide) ?_
        refine lv_aload_n hx hb dX6_committed_88 rfl (lv_at hl 3 rfl) ?_
        refine kget X hP (oM (j := 0) (q := r) (by omega) (by omega)) g_X6_229 rfl dX6_committed_89 ?_
        exact hret _ _ _ _ _ _ (⟨rfl, rdP_h hr hk4 (by rw [cmW, if_neg q_0, if_neg q_1, if_neg q_2, if_neg q_3, if_pos (rfl : nI 4 = nI 4)])⟩) hP hS dX6_committed_92
      by_cases q_5 : y = nI 5
      · skip
        subst q_5
        refine lv_tableIn (off := 65) (tgt := 93) hx hb dX6_committed_28 (by decide) (by decide) rfl (by decide) ?_
        refine lv_aload_n hx hb dX6_committed_93 rfl (lv_at hl 3 rfl) ?_
        refine kget X hP (oM (j := 0) (q := r) (by omega) (by omega)) g_X6_230 rfl dX6_committed_94 ?_
        exact hret _ _ _ _ _ _ (⟨rfl, rdP_h hr hk4 (by rw [cmW, if_neg q_0, if_neg q_1, if_neg q_2, if_neg q_3, if_neg q_4, if_pos (rfl : nI 5 = nI 5)])⟩) hP hS dX6_committed_97
      refine lv_tableOut (tgt := 98) hx hb dX6_committed_28 (tb_out 5 (by decide) (fun i hi => by
          rcases (show i = 0 ∨ i = 1 ∨ i = 2 ∨ i = 3 ∨ i = 4 ∨ i = 5 by omega) with rfl | rfl | rfl | rfl | rfl | rfl <;> assumption)) (by decide) ?_
      refine lv_bipush (v := (-2)) hx hb dX6_committed_98 (by decide) ?_
      exact hret _ _ _ _ _ _ (⟨rfl, rdP_h hr hk4 (by rw [cmW, if_neg q_0, if_neg q_1, if_neg q_2, if_neg q_3, if_neg q_4, if_neg q_5])⟩) hP hS dX6_committed_100
    · skip
      refine lv_iconst (v := (-1)) hx hb dX6_committed_15 (by decide) ?_
      exact hret _ _ _ _ _ _ (⟨rfl, rdP_m (hsR_no hk4 (fun z => absurd z.2 c_12)) rfl⟩) hP hS dX6_committed_16
end
section

def seC (G : Nat → Nat → Int32) (n c P : Nat) (q : Int32) : Int32 := nI (cn (fun i => if G (rN 0 i) 1 = 0 ∧ pf (G (cM 0 c)) (G (rN 0 i) 2) 0 P = q then 1 else 0) n)
def clC (G : Nat → Nat → Int32) (n : Nat) (P : Nat → Nat) (c : Nat) (y : Int32) : Int32 := if y = nI 0 then G (cV 0 c) 0 else if y = nI 1 then G (cM 0 c) 0 else if y = nI 2 then nI (P c) else if y = nI 3 then nI (cn (fun i => if G (rN 0 i) 1 = 0 ∧ pf (G (cM 0 c)) (G (rN 0 i) 2) 0 (P c) = nI 0 then 1 else 0) n) else if y = nI 4 then nI (cn (fun i => if G (rN 0 i) 1 = 0 ∧ hw (G (rN 0 i) 5) c then 1 else 0) n) else -2
def ctC (G : Nat → Nat → Int32) (n k : Nat) (P : Nat → Nat) (y : Int32) : Int32 := if y = nI 0 then G (sB 0) 3 else if y = nI 1 then G (sB 0) 4 else if y = nI 2 then G (sB 0) 6 else if y = nI 3 then nI (cn (fun i => if G (rN 0 i) 1 = nI 0 then 1 else 0) n) else if y = nI 4 then nI (cn (fun i => if G (rN 0 i) 1 = nI 1 then 1 else 0) n) else if y = nI 5 then nI (cn (fun i => if G (rN 0 i) 1 = nI 2 then 1 else 0) n) else if y = nI 6 then nI (cn (fun i => if G (rN 0 i) 1 = nI 3 then 1 else 0) n) else if y = nI 7 then nI (cn (fun c => P c - 1) 12) else if y = nI 8 then G (sB 0) 8 else if y = nI 9 then G (sB 0) 5 else if y = nI 10 then sm (fun i => G (rN 0 i) 7) n else if y = nI 11 then G (sB 0) 7 else if y = nI 12 then sm (fun q => G (mC 0 q) 5) k else if y = nI 13 then (if G (sB 0) 9 = 0 then nI 0 else nI 1) else if y = nI 14 then nI (cn (fun i => if G (rN 0 i) 1 = 0 ∧ 0 < G (rN 0 i) 6 then 1 else 0) n) else if y = nI 15 then G 8 1 else if y = nI 16 then G 10 1 else -2
def rdC (G : Nat → Nat → Int32) (n k : Nat) (P : Nat → Nat) (r : Nat) (y : Int32) : Int32 := if y = nI 0 then G (rN 0 r) 1 else if y = nI 1 then G (rN 0 r) 2 else if y = nI 2 then G (rN 0 r) 3 else if y = nI 3 then dueF G 0 n P r else if y = nI 4 then G (rN 0 r) 4 else if y = nI 5 then G (rN 0 r) 5 else if y = nI 6 then G (rN 0 r) 6 else if y = nI 7 then G (rN 0 r) 7 else if y = nI 8 then (if G (rN 0 r) 1 = 0 then nI (cn (fun c => if 0 < pf (G (cM 0 c)) (G (rN 0 r) 2) 0 (P c) then 1 else 0) 12) else nI 0) else if y = nI 9 then (if G (rN 0 r) 1 = 0 then sm (fun c => vsF (G (cV 0 c)) (G (cM 0 c)) (G (rN 0 r) 2) (P c)) 12 else nI 0) else if y = nI 10 then (if G (rN 0 r) 1 = 0 ∧ cn (cfF G 0 r) 12 ≠ 0 then nI 1 else nI 0) else if y = nI 11 then (if G (rN 0 r) 1 = 0 then nI (cn (fun q => if skF (G (mC 0 q)) (G (rN 0 r)) then 1 else 0) k) else nI 0) else -2
set_option maxHeartbeats 4000000 in
set_option maxRecDepth 100000 in
theorem c_X6_forbidSkew (l : Launch) {D : va_G} {τ : Nat → ClassId} {ad : Nat → Nat} (hI : kInj ad) {G : Nat → Nat → Int32} {n k L b : Nat} {pi : Nat → Nat} (hL : G 8 1 = nI L) (hL4 : L ≤ 4) (hpi : ∀ t, t < 4 → G 9 t = nI (pi t) ∧ pi t < 7) (hne : ∀ t, t < 4 → pi t ≠ 0) (hn : G (sB 0) 6 = nI n) (hn4 : n ≤ 40) (hk : G (sB 0) 7 = nI k) (hk4 : k ≤ 40) (hz : ∀ r, r < n → G (rN 0 r) 8 = 0 ∨ G (rN 0 r) 8 = 1) (hy : G (sB 0) 9 = 0 ∨ G (sB 0) 9 = 1) (hb1 : b ≤ 1) : kM l yX6_forbidSkew cX6_forbidSkew 2 (some .int) { frames := 4, cells := 0, slots := 0, locals := 104 } D τ ad [.ref (ad 7), .int (nI b)] G (fun v G' => if nI b = G (sB 0) 9 then v = -5 ∧ G' = G else ∃ Gr, rcR G Gr pi L n k ∧ G' = gs Gr (sB 0) 9 (nI b) ∧ v = sm (fun q => gs Gr (sB 0) 9 (nI b) (mC 0 q) 5) k) := by
  refine kMet (own := RX6) (by decide) rfl (Nat.le_of_ble_eq_true rfl) ?_
  intro p9 e9 s9 m9 args9 below9 meth9 c9 Q9 X hx hb hP hS hret ls hl
  have hPs := hP
  have hl : lv_has ls 2 [(0, .ref (ad 7)), (1, .int (nI b))] := hl
  refine lv_iload_n hx hb dX6_forbidSkew_0 rfl (lv_at hl 1 rfl) ?_
  refine lv_aload_n hx hb dX6_forbidSkew_1 rfl (lv_at hl 0 rfl) ?_
  refine kget X hP oX g_X6_12 rfl dX6_forbidSkew_2 ?_
  refine kget X hP (oS (j := 0) (by omega)) g_X6_89 rfl dX6_forbidSkew_5 ?_
  first
    | refine kic_ne (tgt := 14) hx hb dX6_forbidSkew_8 (by decide) (by with_reducible rfl) (by with_reducible rfl) (by omega) (by omega) (fun c_8 => ?_) (fun c_8 => ?_)
    | refine lv_icmp_ne (tgt := 14) hx hb dX6_forbidSkew_8 (by decide) (fun c_8 => ?_) (fun c_8 => ?_)
  · skip
    refine lv_aload_n hx hb dX6_forbidSkew_14 rfl (lv_at hl 0 rfl) ?_
    refine kget X hP oX g_X6_25 rfl dX6_forbidSkew_15 ?_
    refine lv_aload_n hx hb dX6_forbidSkew_18 rfl (lv_at hl 0 rfl) ?_
    refine kget X hP oX g_X6_12 rfl dX6_forbidSkew_19 ?_
    refine kcVv X hP hS (c_X2_record l hI (j := 0) (n := n) (k := k) (L := L) (pi := pi) (by omega) hL hL4 hpi hne hn hn4 hk hk4 hz hy) oH v_X6_44 ⟨Nat.le_of_ble_eq_true rfl, Nat.le_of_ble_eq_true rfl, rfl, rfl⟩ rfl rfl (Nat.le_of_ble_eq_true rfl) hl.1 ⟨Nat.zero_le _, Nat.zero_le _⟩ dX6_forbidSkew_22 (fun G_22 H locs hR hP hS => ?_)
    have h_22 : rcR G G_22 pi L n k := hR
    have e0 := rcR_0 h_22 hL4 hne
    refine lv_aload_n hx hb dX6_forbidSkew_25 rfl (lv_at hl 0 rfl) ?_
    refine kget X hP oX g_X6_12 rfl dX6_forbidSkew_26 ?_
    refine lv_iload_n hx hb dX6_forbidSkew_29 rfl (lv_at hl 1 rfl) ?_
    have hzb : ∀ q : Int32, q = nI b → narrow (tyX4 9) (.int q) = .int q ∧ fits (tyX4 9) (.int q) = true := fun q hq => by rcases (show b = 0 ∨ b = 1 by omega) with h | h <;> rw [hq, h] <;> exact ⟨rfl, rfl⟩
    refine kput X hI hP hS (oS (j := 0) (by omega)) g_X6_89 (fun _ => rfl) rfl (fun _ => Nat.le_of_ble_eq_true rfl) (hzb _ rfl).1 (hzb _ rfl).2 dX6_forbidSkew_30 (fun H locs hP hS => ?_)
    refine lv_aload_n hx hb dX6_forbidSkew_33 rfl (lv_at hl 0 rfl) ?_
    refine kget X hP oX g_X6_12 rfl dX6_forbidSkew_34 ?_
    refine kcV X hP hS (c_X4_pairsInSkew l hI (j := 0) (k := k) (by omega) (by rw [gs_row (by omega), e0 (sB 0) (by unfold sB; omega) (by unfold sB; omega) (by unfold sB; omega)]; exact hk) hk4) (oS (j := 0) (by omega)) v_X6_92 ⟨Nat.le_of_ble_eq_true rfl, Nat.le_of_ble_eq_true rfl, rfl, rfl⟩ rfl rfl (Nat.le_of_ble_eq_true rfl) hl.1 ⟨Nat.zero_le _, Nat.zero_le _⟩ dX6_forbidSkew_37 (fun r_37 G_37 H locs hR hP hS => ?_)
    obtain ⟨rfl, hG_37⟩ := hR
    rw [hG_37] at hP
    clear hG_37
    exact hret _ _ _ _ _ _ (by rw [if_neg c_8]; exact ⟨_, h_22, rfl, rfl⟩) hP hS dX6_forbidSkew_40
  · skip
    refine lv_bipush (v := (-5)) hx hb dX6_forbidSkew_11 (by decide) ?_
    exact hret _ _ _ _ _ _ (by rw [if_pos c_8]; exact ⟨rfl, rfl⟩) hP hS dX6_forbidSkew_13

set_option maxHeartbeats 4000000 in
set_option maxRecDepth 100000 in
theorem c_X6_cell (l : Launch) {D : va_G} {τ : Nat → ClassId} {ad : Nat → Nat} (hI : kInj ad) {G : Nat → Nat → Int32} {n : Nat} {P : Nat → Nat} {x y : Int32} (hn : G (sB 0) 6 = nI n) (hn4 : n ≤ 40)  (hp : ∀ c, c < 12 → G (cB 0 c) 2 = nI (P c) ∧ 1 ≤ P c ∧ P c ≤ 10) : kM l yX6_cell cX6_cell 4 (some .int) { frames := 2, cells := 0, slots := 0, locals := 47 } D τ ad [.ref (ad 7), .int x, .int y] G (fun v G' => G' = G ∧ rdP 12 x (v = -1) (fun c => v = clC G n P c y)) := by
  refine kMet (own := RX6) (by decide) rfl (Nat.le_of_ble_eq_true rfl) ?_
  intro p9 e9 s9 m9 args9 below9 meth9 c9 Q9 X hx hb hP hS hret ls hl
  have hPs := hP
  have hl : lv_has ls 4 [(0, .ref (ad 7)), (1, .int x), (2, .int y)] := hl
  refine lv_iload_n hx hb dX6_cell_0 rfl (lv_at hl 1 rfl) ?_
  refine kcS X hP hS (c_X6_isCell l hI) v_X6_99 ⟨Nat.le_of_ble_eq_true rfl, Nat.le_of_ble_eq_true rfl, rfl, rfl⟩ rfl rfl (Nat.le_of_ble_eq_true rfl) hl.1 ⟨Nat.zero_le _, Nat.zero_le _⟩ dX6_cell_1 (fun r_1 G_1 H locs hR hP hS => ?_)
  obtain ⟨rfl, hG_1⟩ := hR
  rw [hG_1] at hP
  clear hG_1
  first
    | refine kif_ne (tgt := 9) hx hb dX6_cell_4 (by decide) (fun c_4 => ?_) (fun c_4 => ?_)
    | refine lv_if_ne (tgt := 9) hx hb dX6_cell_4 (by decide) (fun c_4 => ?_) (fun c_4 => ?_)
  · skip
    obtain ⟨c, hc, rfl⟩ := hsR_yes (n := 12) (by omega) c_4
    refine lv_aload_n hx hb dX6_cell_9 rfl (lv_at hl 0 rfl) ?_
    refine kget X hP oX g_X6_12 rfl dX6_cell_10 ?_
    refine kget X hP (oS (j := 0) (by omega)) g_X6_112 rfl dX6_cell_13 ?_
    refine lv_iload_n hx hb dX6_cell_16 rfl (lv_at hl 1 rfl) ?_
    refine kaald X hP (qC (j := 0) (by omega)) (by omega) rfl dX6_cell_17 ?_
    refine kast hx hb dX6_cell_18 rfl hl (by decide) (kp_3_3 rfl) (fun ls hl => ?_)
    refine lv_iload_n hx hb dX6_cell_19 rfl (lv_at hl 2 rfl) ?_
    by_cases q_0 : y = nI 0
    · skip
      subst q_0
      refine lv_tableIn (off := 36) (tgt := 56) hx hb dX6_cell_20 (by decide) (by decide) rfl (by decide) ?_
      refine lv_aload_n hx hb dX6_cell_56 rfl (lv_at hl 3 rfl) ?_
      refine kget X hP (oC (j := 0) (c := c) (by omega) hc) g_X6_175 rfl dX6_cell_57 ?_
      refine lv_iconst (v := nI 0) hx hb dX6_cell_60 (by decide) ?_
      refine kiald X hP (aV (j := 0) (c := c) (by omega) hc) (by omega) dX6_cell_61 ?_
      exact hret _ _ _ _ _ _ (⟨rfl, rdP_h hc (by omega) (by rw [clC, if_pos (rfl : nI 0 = nI 0)])⟩) hP hS dX6_cell_62
    by_cases q_1 : y = nI 1
    · skip
      subst q_1
      refine lv_tableIn (off := 43) (tgt := 63) hx hb dX6_cell_20 (by decide) (by decide) rfl (by decide) ?_
      refine lv_aload_n hx hb dX6_cell_63 rfl (lv_at hl 3 rfl) ?_
      refine kget X hP (oC (j := 0) (c := c) (by omega) hc) g_X6_176 rfl dX6_cell_64 ?_
      refine lv_iconst (v := nI 0) hx hb dX6_cell_67 (by decide) ?_
      refine kiald X hP (aM (j := 0) (c := c) (by omega) hc) (by omega) dX6_cell_68 ?_
      exact hret _ _ _ _ _ _ (⟨rfl, rdP_h hc (by omega) (by rw [clC, if_neg q_0, if_pos (rfl : nI 1 = nI 1)])⟩) hP hS dX6_cell_69
    by_cases q_2 : y = nI 2
    · skip
      subst q_2
      refine lv_tableIn (off := 50) (tgt := 70) hx hb dX6_cell_20 (by decide) (by decide) rfl (by decide) ?_
      refine lv_aload_n hx hb dX6_cell_70 rfl (lv_at hl 3 rfl) ?_
      refine kget X hP (oC (j := 0) (c := c) (by omega) hc) g_X6_179 (congrArg (fun z => some (Value.int z)) (hp c hc).1) dX6_cell_71 ?_
      exact hret _ _ _ _ _ _ (⟨rfl, rdP_h hc (by omega) (by rw [clC, if_neg q_0, if_neg q_1, if_pos (rfl : nI 2 = nI 2)])⟩) hP hS dX6_cell_74
    by_cases q_3 : y = nI 3
    · skip
      subst q_3
      refine lv_tableIn (off := 55) (tgt := 75) hx hb dX6_cell_20 (by decide) (by decide) rfl (by decide) ?_
      refine lv_aload_n hx hb dX6_cell_75 rfl (lv_at hl 0 rfl) ?_
      refine kget X hP oX g_X6_12 rfl dX6_cell_76 ?_
      refine lv_aload_n hx hb dX6_cell_79 rfl (lv_at hl 3 rfl) ?_
      refine lv_iconst (v := nI 0) hx hb dX6_cell_80 (by decide) ?_
      refine kcV X hP hS (c_X4_seersOf l hI (j := 0) (n := n) (c := c) (P := P c) (q := nI 0) (by omega) hn hn4 hc (hp c hc).1 (hp c hc).2.2) (oS (j := 0) (by omega)) v_X6_182 ⟨Nat.le_of_ble_eq_true rfl, Nat.le_of_ble_eq_true rfl, rfl, rfl⟩ rfl rfl (Nat.le_of_ble_eq_true rfl) hl.1 ⟨Nat.zero_le _, Nat.zero_le _⟩ dX6_cell_81 (fun r_81 G_81 H locs hR hP hS => ?_)
      obtain ⟨rfl, hG_81⟩ := hR
      rw [hG_81] at hP
      clear hG_81
      exact hret _ _ _ _ _ _ (⟨rfl, rdP_h hc (by omega) (by rw [clC, if_neg q_0, if_neg q_1, if_neg q_2, if_pos (rfl : nI 3 = nI 3)])⟩) hP hS dX6_cell_84
    by_cases q_4 : y = nI 4
    · skip
      subst q_4
      refine lv_tableIn (off := 65) (tgt := 85) hx hb dX6_cell_20 (by decide) (by decide) rfl (by decide) ?_
      refine lv_aload_n hx hb dX6_cell_85 rfl (lv_at hl 0 rfl) ?_
      refine kget X hP oX g_X6_12 rfl dX6_cell_86 ?_
      refine lv_iload_n hx hb dX6_cell_89 rfl (lv_at hl 1 rfl) ?_
      refine kcV X hP hS (c_X4_writersOf l hI (j := 0) (n := n) (c := c) (by omega) hn hn4) (oS (j := 0) (by omega)) v_X6_186 ⟨Nat.le_of_ble_eq_true rfl, Nat.le_of_ble_eq_true rfl, rfl, rfl⟩ rfl rfl (Nat.le_of_ble_eq_true rfl) hl.1 ⟨Nat.zero_le _, Nat.zero_le _⟩ dX6_cell_90 (fun r_90 G_90 H locs hR hP hS => ?_)
      obtain ⟨rfl, hG_90⟩ := hR
      rw [hG_90] at hP
      clear hG_90
      exact hret _ _ _ _ _ _ (⟨rfl, rdP_h hc (by omega) (by rw [clC, if_neg q_0, if_neg q_1, if_neg q_2, if_neg q_3, if_pos (rfl : nI 4 = nI 4)])⟩) hP hS dX6_cell_93
    refine lv_tableOut (tgt := 94) hx hb dX6_cell_20 (tb_out 4 (by decide) (fun i hi => by
        rcases (show i = 0 ∨ i = 1 ∨ i = 2 ∨ i = 3 ∨ i = 4 by omega) with rfl | rfl | rfl | rfl | rfl <;> assumption)) (by decide) ?_
    refine lv_bipush (v := (-2)) hx hb dX6_cell_94 (by decide) ?_
    exact hret _ _ _ _ _ _ (⟨rfl, rdP_h hc (by omega) (by rw [clC, if_neg q_0, if_neg q_1, if_neg q_2, if_neg q_3, if_neg q_4])⟩) hP hS dX6_cell_96
  · skip
    have hmc := hsR_no (n := 12) (by omega) c_4
    refine lv_iconst (v := (-1)) hx hb dX6_cell_7 (by decide) ?_
    exact hret _ _ _ _ _ _ (⟨rfl, rdP_m hmc rfl⟩) hP hS dX6_cell_8

set_option maxHeartbeats 4000000 in
set_option maxRecDepth 100000 in
theorem c_X6_count (l : Launch) {D : va_G} {τ : Nat → ClassId} {ad : Nat → Nat} (hI : kInj ad) {G : Nat → Nat → Int32} {n k : Nat} {P : Nat → Nat} {y : Int32} (hn : G (sB 0) 6 = nI n) (hn4 : n ≤ 40) (hk : G (sB 0) 7 = nI k) (hk4 : k ≤ 40)  (hp : ∀ c, c < 12 → G (cB 0 c) 2 = nI (P c) ∧ 1 ≤ P c ∧ P c ≤ 10) : kM l yX6_count cX6_count 2 (some .int) { frames := 2, cells := 0, slots := 0, locals := 42 } D τ ad [.ref (ad 7), .int y] G (fun v G' => G' = G ∧ v = ctC G n k P y) := by
  refine kMet (own := RX6) (by decide) rfl (Nat.le_of_ble_eq_true rfl) ?_
  intro p9 e9 s9 m9 args9 below9 meth9 c9 Q9 X hx hb hP hS hret ls hl
  have hPs := hP
  have hl : lv_has ls 2 [(0, .ref (ad 7)), (1, .int y)] := hl
  refine lv_iload_n hx hb dX6_count_0 rfl (lv_at hl 1 rfl) ?_
  by_cases q_0 : y = nI 0
  · skip
    subst q_0
    refine lv_tableIn (off := 83) (tgt := 84) hx hb dX6_count_1 (by decide) (by decide) rfl (by decide) ?_
    refine lv_aload_n hx hb dX6_count_84 rfl (lv_at hl 0 rfl) ?_
    refine kget X hP oX g_X6_12 rfl dX6_count_85 ?_
    refine kget X hP (oS (j := 0) (by omega)) g_X6_144 rfl dX6_count_88 ?_
    exact hret _ _ _ _ _ _ (⟨rfl, by rw [ctC, if_pos (rfl : nI 0 = nI 0)]⟩) hP hS dX6_count_91
  by_cases q_1 : y = nI 1
  · skip
    subst q_1
    refine lv_tableIn (off := 91) (tgt := 92) hx hb dX6_count_1 (by decide) (by decide) rfl (by decide) ?_
    refine lv_aload_n hx hb dX6_count_92 rfl (lv_at hl 0 rfl) ?_
    refine kget X hP oX g_X6_12 rfl dX6_count_93 ?_
    refine kget X hP (oS (j := 0) (by omega)) g_X6_207 rfl dX6_count_96 ?_
    exact hret _ _ _ _ _ _ (⟨rfl, by rw [ctC, if_neg q_0, if_pos (rfl : nI 1 = nI 1)]⟩) hP hS dX6_count_99
  by_cases q_2 : y = nI 2
  · skip
    subst q_2
    refine lv_tableIn (off := 99) (tgt := 100) hx hb dX6_count_1 (by decide) (by decide) rfl (by decide) ?_
    refine lv_aload_n hx hb dX6_count_100 rfl (lv_at hl 0 rfl) ?_
    refine kget X hP oX g_X6_12 rfl dX6_count_101 ?_
    refine kget X hP (oS (j := 0) (by omega)) g_X6_36 rfl dX6_count_104 ?_
    exact hret _ _ _ _ _ _ (⟨rfl, by rw [ctC, if_neg q_0, if_neg q_1, if_pos (rfl : nI 2 = nI 2)]⟩) hP hS dX6_count_107
  by_cases q_3 : y = nI 3
  · skip
    subst q_3
    refine lv_tableIn (off := 107) (tgt := 108) hx hb dX6_count_1 (by decide) (by decide) rfl (by decide) ?_
    refine lv_aload_n hx hb dX6_count_108 rfl (lv_at hl 0 rfl) ?_
    refine kget X hP oX g_X6_12 rfl dX6_count_109 ?_
    refine lv_iconst (v := nI 0) hx hb dX6_count_112 (by decide) ?_
    refine kcV X hP hS (c_X4_readersIn l hI (j := 0) (by omega) hn hn4) (oS (j := 0) (by omega)) v_X6_40 ⟨Nat.le_of_ble_eq_true rfl, Nat.le_of_ble_eq_true rfl, rfl, rfl⟩ rfl rfl (Nat.le_of_ble_eq_true rfl) hl.1 ⟨Nat.zero_le _, Nat.zero_le _⟩ dX6_count_113 (fun r_113 G_113 H locs hR hP hS => ?_)
    obtain ⟨rfl, hG_113⟩ := hR
    rw [hG_113] at hP
    clear hG_113
    exact hret _ _ _ _ _ _ (⟨rfl, by rw [ctC, if_neg q_0, if_neg q_1, if_neg q_2, if_pos (rfl : nI 3 = nI 3)]⟩) hP hS dX6_count_116
  by_cases q_4 : y = nI 4
  · skip
    subst q_4
    refine lv_tableIn (off := 116) (tgt := 117) hx hb dX6_count_1 (by decide) (by decide) rfl (by decide) ?_
    refine lv_aload_n hx hb dX6_count_117 rfl (lv_at hl 0 rfl) ?_
    refine kget X hP oX g_X6_12 rfl dX6_count_118 ?_
    refine lv_iconst (v := nI 1) hx hb dX6_count_121 (by decide) ?_
    refine kcV X hP hS (c_X4_readersIn l hI (j := 0) (by omega) hn hn4) (oS (j := 0) (by omega)) v_X6_40 ⟨Nat.le_of_ble_eq_true rfl, Nat.le_of_ble_eq_true rfl, rfl, rfl⟩ rfl rfl (Nat.le_of_ble_eq_true rfl) hl.1 ⟨Nat.zero_le _, Nat.zero_le _⟩ dX6_count_122 (fun r_122 G_122 H locs hR hP hS => ?_)
    obtain ⟨rfl, hG_122⟩ := hR
    rw [hG_122] at hP
    clear hG_122
    exact hret _ _ _ _ _ _ (⟨rfl, by rw [ctC, if_neg q_0, if_neg q_1, if_neg q_2, if_neg q_3, if_pos (rfl : nI 4 = nI 4)]⟩) hP hS dX6_count_125
  by_cases q_5 : y = nI 5
  · skip
    subst q_5
    refine lv_tableIn (off := 125) (tgt := 126) hx hb dX6_count_1 (by decide) (by decide) rfl (by decide) ?_
    refine lv_aload_n hx hb dX6_count_126 rfl (lv_at hl 0 rfl) ?_
    refine kget X hP oX g_X6_12 rfl dX6_count_127 ?_
    refine lv_iconst (v := nI 2) hx hb dX6_count_130 (by decide) ?_
    refine kcV X hP hS (c_X4_readersIn l hI (j := 0) (by omega) hn hn4) (oS (j := 0) (by omega)) v_X6_40 ⟨Nat.le_of_ble_eq_true rfl, Nat.le_of_ble_eq_true rfl, rfl, rfl⟩ rfl rfl (Nat.le_of_ble_eq_true rfl) hl.1 ⟨Nat.zero_le _, Nat.zero_le _⟩ dX6_count_131 (fun r_131 G_131 H locs hR hP hS => ?_)
    obtain ⟨rfl, hG_131⟩ := hR
    rw [hG_131] at hP
    clear hG_131
    exact hret _ _ _ _ _ _ (⟨rfl, by rw [ctC, if_neg q_0, if_neg q_1, if_neg q_2, if_neg q_3, if_neg q_4, if_pos (rfl : nI 5 = nI 5)]⟩) hP hS dX6_count_134
  by_cases q_6 : y = nI 6
  · skip
    subst q_6
    refine lv_tableIn (off := 134) (tgt := 135) hx hb dX6_count_1 (by decide) (by decide) rfl (by decide) ?_
    refine lv_aload_n hx hb dX6_count_135 rfl (lv_at hl 0 rfl) ?_
    refine kget X hP oX g_X6_12 rfl dX6_count_136 ?_
    refine lv_iconst (v := nI 3) hx hb dX6_count_139 (by decide) ?_
    refine kcV X hP hS (c_X4_readersIn l hI (j := 0) (by omega) hn hn4) (oS (j := 0) (by omega)) v_X6_40 ⟨Nat.le_of_ble_eq_true rfl, Nat.le_of_ble_eq_true rfl, rfl, rfl⟩ rfl rfl (Nat.le_of_ble_eq_true rfl) hl.1 ⟨Nat.zero_le _, Nat.zero_le _⟩ dX6_count_140 (fun r_140 G_140 H locs hR hP hS => ?_)
    obtain ⟨rfl, hG_140⟩ := hR
    rw [hG_140] at hP
    clear hG_140
    exact hret _ _ _ _ _ _ (⟨rfl, by rw [ctC, if_neg q_0, if_neg q_1, if_neg q_2, if_neg q_3, if_neg q_4, if_neg q_5, if_pos (rfl : nI 6 = nI 6)]⟩) hP hS dX6_count_143
  by_cases q_7 : y = nI 7
  · skip
    subst q_7
    refine lv_tableIn (off := 143) (tgt := 144) hx hb dX6_count_1 (by decide) (by decide) rfl (by decide) ?_
    refine lv_aload_n hx hb dX6_count_144 rfl (lv_at hl 0 rfl) ?_
    refine kget X hP oX g_X6_12 rfl dX6_count_145 ?_
    refine kcV X hP hS (c_X4_oldVersions l hI (j := 0) (P := P) (by omega) (fun c hc => ⟨(hp c hc).1, (hp c hc).2.1⟩)) (oS (j := 0) (by omega)) v_X6_233 ⟨Nat.le_of_ble_eq_true rfl, Nat.le_of_ble_eq_true rfl, rfl, rfl⟩ rfl rfl (Nat.le_of_ble_eq_true rfl) hl.1 ⟨Nat.zero_le _, Nat.zero_le _⟩ dX6_count_148 (fun r_148 G_148 H locs hR hP hS => ?_)
    obtain ⟨rfl, hG_148⟩ := hR
    rw [hG_148] at hP
    clear hG_148
    exact hret _ _ _ _ _ _ (⟨rfl, by rw [ctC, if_neg q_0, if_neg q_1, if_neg q_2, if_neg q_3, if_neg q_4, if_neg q_5, if_neg q_6, if_pos (rfl : nI 7 = nI 7)]⟩) hP hS dX6_count_151
  by_cases q_8 : y = nI 8
  · skip
    subst q_8
    refine lv_tableIn (off := 151) (tgt := 152) hx hb dX6_count_1 (by decide) (by decide) rfl (by decide) ?_
    refine lv_aload_n hx hb dX6_count_152 rfl (lv_at hl 0 rfl) ?_
    refine kget X hP oX g_X6_12 rfl dX6_count_153 ?_
    refine kget X hP (oS (j := 0) (by omega)) g_X6_236 rfl dX6_count_156 ?_
    exact hret _ _ _ _ _ _ (⟨rfl, by rw [ctC, if_neg q_0, if_neg q_1, if_neg q_2, if_neg q_3, if_neg q_4, if_neg q_5, if_neg q_6, if_neg q_7, if_pos (rfl : nI 8 = nI 8)]⟩) hP hS dX6_count_159
  by_cases q_9 : y = nI 9
  · skip
    subst q_9
    refine lv_tableIn (off := 159) (tgt := 160) hx hb dX6_count_1 (by decide) (by decide) rfl (by decide) ?_
    refine lv_aload_n hx hb dX6_count_160 rfl (lv_at hl 0 rfl) ?_
    refine kget X hP oX g_X6_12 rfl dX6_count_161 ?_
    refine kget X hP (oS (j := 0) (by omega)) g_X6_86 rfl dX6_count_164 ?_
    exact hret _ _ _ _ _ _ (⟨rfl, by rw [ctC, if_neg q_0, if_neg q_1, if_neg q_2, if_neg q_3, if_neg q_4, if_neg q_5, if_neg q_6, if_neg q_7, if_neg q_8, if_pos (rfl : nI 9 = nI 9)]⟩) hP hS dX6_count_167
  by_cases q_10 : y = nI 10
  · skip
    subst q_10
    refine lv_tableIn (off := 167) (tgt := 168) hx hb dX6_count_1 (by decide) (by decide) rfl (by decide) ?_
    refine lv_aload_n hx hb dX6_count_168 rfl (lv_at hl 0 rfl) ?_
    refine kget X hP oX g_X6_12 rfl dX6_count_169 ?_
    refine kcV X hP hS (c_X4_coinsPaid l hI (j := 0) (by omega) hn hn4) (oS (j := 0) (by omega)) v_X6_239 ⟨Nat.le_of_ble_eq_true rfl, Nat.le_of_ble_eq_true rfl, rfl, rfl⟩ rfl rfl (Nat.le_of_ble_eq_true rfl) hl.1 ⟨Nat.zero_le _, Nat.zero_le _⟩ dX6_count_172 (fun r_172 G_172 H locs hR hP hS => ?_)
    obtain ⟨rfl, hG_172⟩ := hR
    rw [hG_172] at hP
    clear hG_172
    exact hret _ _ _ _ _ _ (⟨rfl, by rw [ctC, if_neg q_0, if_neg q_1, if_neg q_2, if_neg q_3, if_neg q_4, if_neg q_5, if_neg q_6, if_neg q_7, if_neg q_8, if_neg q_9, if_pos (rfl : nI 10 = nI 10)]⟩) hP hS dX6_count_175
  by_cases q_11 : y = nI 11
  · skip
    subst q_11
    refine lv_tableIn (off := 175) (tgt := 176) hx hb dX6_count_1 (by decide) (by decide) rfl (by decide) ?_
    refine lv_aload_n hx hb dX6_count_176 rfl (lv_at hl 0 rfl) ?_
    refine kget X hP oX g_X6_12 rfl dX6_count_177 ?_
    refine kget X hP (oS (j := 0) (by omega)) g_X6_210 rfl dX6_count_180 ?_
    exact hret _ _ _ _ _ _ (⟨rfl, by rw [ctC, if_neg q_0, if_neg q_1, if_neg q_2, if_neg q_3, if_neg q_4, if_neg q_5, if_neg q_6, if_neg q_7, if_neg q_8, if_neg q_9, if_neg q_10, if_pos (rfl : nI 11 = nI 11)]⟩) hP hS dX6_count_183
  by_cases q_12 : y = nI 12
  · skip
    subst q_12
    refine lv_tableIn (off := 183) (tgt := 184) hx hb dX6_count_1 (by decide) (by decide) rfl (by decide) ?_
    refine lv_aload_n hx hb dX6_count_184 rfl (lv_at hl 0 rfl) ?_
    refine kget X hP oX g_X6_12 rfl dX6_count_185 ?_
    refine kcV X hP hS (c_X4_pairsInSkew l hI (j := 0) (by omega) hk hk4) (oS (j := 0) (by omega)) v_X6_92 ⟨Nat.le_of_ble_eq_true rfl, Nat.le_of_ble_eq_true rfl, rfl, rfl⟩ rfl rfl (Nat.le_of_ble_eq_true rfl) hl.1 ⟨Nat.zero_le _, Nat.zero_le _⟩ dX6_count_188 (fun r_188 G_188 H locs hR hP hS => ?_)
    obtain ⟨rfl, hG_188⟩ := hR
    rw [hG_188] at hP
    clear hG_188
    exact hret _ _ _ _ _ _ (⟨rfl, by rw [ctC, if_neg q_0, if_neg q_1, if_neg q_2, if_neg q_3, if_neg q_4, if_neg q_5, if_neg q_6, if_neg q_7, if_neg q_8, if_neg q_9, if_neg q_10, if_neg q_11, if_pos (rfl : nI 12 = nI 12)]⟩) hP hS dX6_count_191
  by_cases q_13 : y = nI 13
  · skip
    subst q_13
    refine lv_tableIn (off := 191) (tgt := 192) hx hb dX6_count_1 (by decide) (by decide) rfl (by decide) ?_
    refine lv_aload_n hx hb dX6_count_192 rfl (lv_at hl 0 rfl) ?_
    refine kget X hP oX g_X6_12 rfl dX6_count_193 ?_
    refine kget X hP (oS (j := 0) (by omega)) g_X6_89 rfl dX6_count_196 ?_
    first
      | refine kif_eq (tgt := 206) hx hb dX6_count_199 (by decide) (fun c_199 => ?_) (fun c_199 => ?_)
      | refine lv_if_eq (tgt := 206) hx hb dX6_count_199 (by decide) (fun c_199 => ?_) (fun c_199 => ?_)
    · skip
      refine lv_iconst (v := nI 0) hx hb dX6_count_206 (by decide) ?_
      exact hret _ _ _ _ _ _ (⟨rfl, by rw [ctC, if_neg q_0, if_neg q_1, if_neg q_2, if_neg q_3, if_neg q_4, if_neg q_5, if_neg q_6, if_neg q_7, if_neg q_8, if_neg q_9, if_neg q_10, if_neg q_11, if_neg q_12, if_pos (rfl : nI 13 = nI 13), if_pos c_199]⟩) hP hS dX6_count_207
    · skip
      refine lv_iconst (v := nI 1) hx hb dX6_count_202 (by decide) ?_
      refine lv_goto (tgt := 207) hx hb dX6_count_203 (by decide) ?_
      exact hret _ _ _ _ _ _ (⟨rfl, by rw [ctC, if_neg q_0, if_neg q_1, if_neg q_2, if_neg q_3, if_neg q_4, if_neg q_5, if_neg q_6, if_neg q_7, if_neg q_8, if_neg q_9, if_neg q_10, if_neg q_11, if_neg q_12, if_pos (rfl : nI 13 = nI 13), if_neg c_199]⟩) hP hS dX6_count_207
  by_cases q_14 : y = nI 14
  · skip
    subst q_14
    refine lv_tableIn (off := 207) (tgt := 208) hx hb dX6_count_1 (by decide) (by decide) rfl (by decide) ?_
    refine lv_aload_n hx hb dX6_count_208 rfl (lv_at hl 0 rfl) ?_
    refine kget X hP oX g_X6_12 rfl dX6_count_209 ?_
    refine kcV X hP hS (c_X4_openWidows l hI (j := 0) (by omega) hn hn4) (oS (j := 0) (by omega)) v_X6_242 ⟨Nat.le_of_ble_eq_true rfl, Nat.le_of_ble_eq_true rfl, rfl, rfl⟩ rfl rfl (Nat.le_of_ble_eq_true rfl) hl.1 ⟨Nat.zero_le _, Nat.zero_le _⟩ dX6_count_212 (fun r_212 G_212 H locs hR hP hS => ?_)
    obtain ⟨rfl, hG_212⟩ := hR
    rw [hG_212] at hP
    clear hG_212
    exact hret _ _ _ _ _ _ (⟨rfl, by rw [ctC, if_neg q_0, if_neg q_1, if_neg q_2, if_neg q_3, if_neg q_4, if_neg q_5, if_neg q_6, if_neg q_7, if_neg q_8, if_neg q_9, if_neg q_10, if_neg q_11, if_neg q_12, if_neg q_13, if_pos (rfl : nI 14 = nI 14)]⟩) hP hS dX6_count_215
  by_cases q_15 : y = nI 15
  · skip
    subst q_15
    refine lv_tableIn (off := 215) (tgt := 216) hx hb dX6_count_1 (by decide) (by decide) rfl (by decide) ?_
    refine lv_aload_n hx hb dX6_count_216 rfl (lv_at hl 0 rfl) ?_
    refine kget X hP oX g_X6_25 rfl dX6_count_217 ?_
    refine kget X hP oH g_X6_165 rfl dX6_count_220 ?_
    exact hret _ _ _ _ _ _ (⟨rfl, by rw [ctC, if_neg q_0, if_neg q_1, if_neg q_2, if_neg q_3, if_neg q_4, if_neg q_5, if_neg q_6, if_neg q_7, if_neg q_8, if_neg q_9, if_neg q_10, if_neg q_11, if_neg q_12, if_neg q_13, if_neg q_14, if_pos (rfl : nI 15 = nI 15)]⟩) hP hS dX6_count_223
  by_cases q_16 : y = nI 16
  · skip
    subst q_16
    refine lv_tableIn (off := 223) (tgt := 224) hx hb dX6_count_1 (by decide) (by decide) rfl (by decide) ?_
    refine lv_aload_n hx hb dX6_count_224 rfl (lv_at hl 0 rfl) ?_
    refine kget X hP oX g_X6_32 rfl dX6_count_225 ?_
    refine kget X hP oT g_X6_145 rfl dX6_count_228 ?_
    exact hret _ _ _ _ _ _ (⟨rfl, by rw [ctC, if_neg q_0, if_neg q_1, if_neg q_2, if_neg q_3, if_neg q_4, if_neg q_5, if_neg q_6, if_neg q_7, if_neg q_8, if_neg q_9, if_neg q_10, if_neg q_11, if_neg q_12, if_neg q_13, if_neg q_14, if_neg q_15, if_pos (rfl : nI 16 = nI 16)]⟩) hP hS dX6_count_231
  refine lv_tableOut (tgt := 232) hx hb dX6_count_1 (tb_out 16 (by decide) (fun i hi => by
      rcases (show i = 0 ∨ i = 1 ∨ i = 2 ∨ i = 3 ∨ i = 4 ∨ i = 5 ∨ i = 6 ∨ i = 7 ∨ i = 8 ∨ i = 9 ∨ i = 10 ∨ i = 11 ∨ i = 12 ∨ i = 13 ∨ i = 14 ∨ i = 15 ∨ i = 16 by omega) with rfl | rfl | rfl | rfl | rfl | rfl | rfl | rfl | rfl | rfl | rfl | rfl | rfl | rfl | rfl | rfl | rfl <;> assumption)) (by decide) ?_
  refine lv_bipush (v := (-2)) hx hb dX6_count_232 (by decide) ?_
  exact hret _ _ _ _ _ _ (⟨rfl, by rw [ctC, if_neg q_0, if_neg q_1, if_neg q_2, if_neg q_3, if_neg q_4, if_neg q_5, if_neg q_6, if_neg q_7, if_neg q_8, if_neg q_9, if_neg q_10, if_neg q_11, if_neg q_12, if_neg q_13, if_neg q_14, if_neg q_15, if_neg q_16]⟩) hP hS dX6_count_234

set_option maxHeartbeats 4000000 in
set_option maxRecDepth 100000 in
theorem c_X6_reader (l : Launch) {D : va_G} {τ : Nat → ClassId} {ad : Nat → Nat} (hI : kInj ad) {G : Nat → Nat → Int32} {n k : Nat} {P : Nat → Nat} {x y : Int32} (hn : G (sB 0) 6 = nI n) (hn4 : n ≤ 40) (hk : G (sB 0) 7 = nI k) (hk4 : k ≤ 40)  (hp : ∀ c, c < 12 → G (cB 0 c) 2 = nI (P c) ∧ 1 ≤ P c ∧ P c ≤ 10) : kM l yX6_reader cX6_reader 4 (some .int) { frames := 4, cells := 0, slots := 0, locals := 93 } D τ ad [.ref (ad 7), .int x, .int y] G (fun v G' => G' = G ∧ rdP n x (v = -1) (fun r => v = rdC G n k P r y)) := by
  refine kMet (own := RX6) (by decide) rfl (Nat.le_of_ble_eq_true rfl) ?_
  intro p9 e9 s9 m9 args9 below9 meth9 c9 Q9 X hx hb hP hS hret ls hl
  have hPs := hP
  have hl : lv_has ls 4 [(0, .ref (ad 7)), (1, .int x), (2, .int y)] := hl
  refine lv_aload_n hx hb dX6_reader_0 rfl (lv_at hl 0 rfl) ?_
  refine kget X hP oX g_X6_12 rfl dX6_reader_1 ?_
  refine lv_iload_n hx hb dX6_reader_4 rfl (lv_at hl 1 rfl) ?_
  refine kcV X hP hS (c_X4_hasReader l hI (j := 0) (by omega)) (oS (j := 0) (by omega)) v_X6_51 ⟨Nat.le_of_ble_eq_true rfl, Nat.le_of_ble_eq_true rfl, rfl, rfl⟩ rfl rfl (Nat.le_of_ble_eq_true rfl) hl.1 ⟨Nat.zero_le _, Nat.zero_le _⟩ dX6_reader_5 (fun r_5 G_5 H locs hR hP hS => ?_)
  obtain ⟨rfl, hG_5⟩ := hR
  rw [hG_5] at hP
  clear hG_5
  first
    | refine kif_ne (tgt := 13) hx hb dX6_reader_8 (by decide) (fun c_8 => ?_) (fun c_8 => ?_)
    | refine lv_if_ne (tgt := 13) hx hb dX6_reader_8 (by decide) (fun c_8 => ?_) (fun c_8 => ?_)
  · skip
    obtain ⟨r, hr, rfl⟩ := hsR_yes hn4 (by rw [hn] at c_8; exact c_8)
    refine lv_aload_n hx hb dX6_reader_13 rfl (lv_at hl 0 rfl) ?_
    refine kget X hP oX g_X6_12 rfl dX6_reader_14 ?_
    refine kget X hP (oS (j := 0) (by omega)) g_X6_55 rfl dX6_reader_17 ?_
    refine lv_iload_n hx hb dX6_reader_20 rfl (lv_at hl 1 rfl) ?_
    refine kaald X hP (qR (j := 0) (by omega)) (by omega) rfl dX6_reader_21 ?_
    refine kast hx hb dX6_reader_22 rfl hl (by decide) (kp_3_3 rfl) (fun ls hl => ?_)
    refine lv_iload_n hx hb dX6_reader_23 rfl (lv_at hl 2 rfl) ?_
    by_cases q_0 : y = nI 0
    · skip
      subst q_0
      refine lv_tableIn (off := 64) (tgt := 88) hx hb dX6_reader_24 (by decide) (by decide) rfl (by decide) ?_
      refine lv_aload_n hx hb dX6_reader_88 rfl (lv_at hl 3 rfl) ?_
      refine kget X hP (oR (j := 0) (r := r) (by omega) (by omega)) g_X6_79 rfl dX6_reader_89 ?_
      exact hret _ _ _ _ _ _ (⟨rfl, rdP_h hr hn4 (by rw [rdC, if_pos (rfl : nI 0 = nI 0)])⟩) hP hS dX6_reader_92
    by_cases q_1 : y = nI 1
    · skip
      subst q_1
      refine lv_tableIn (off := 69) (tgt := 93) hx hb dX6_reader_24 (by decide) (by decide) rfl (by decide) ?_
      refine lv_aload_n hx hb dX6_reader_93 rfl (lv_at hl 3 rfl) ?_
      refine kget X hP (oR (j := 0) (r := r) (by omega) (by omega)) g_X6_116 rfl dX6_reader_94 ?_
      exact hret _ _ _ _ _ _ (⟨rfl, rdP_h hr hn4 (by rw [rdC, if_neg q_0, if_pos (rfl : nI 1 = nI 1)])⟩) hP hS dX6_reader_97
    by_cases q_2 : y = nI 2
    · skip
      subst q_2
      refine lv_tableIn (off := 74) (tgt := 98) hx hb dX6_reader_24 (by decide) (by decide) rfl (by decide) ?_
      refine lv_aload_n hx hb dX6_reader_98 rfl (lv_at hl 3 rfl) ?_
      refine kget X hP (oR (j := 0) (r := r) (by omega) (by omega)) g_X6_65 rfl dX6_reader_99 ?_
      exact hret _ _ _ _ _ _ (⟨rfl, rdP_h hr hn4 (by rw [rdC, if_neg q_0, if_neg q_1, if_pos (rfl : nI 2 = nI 2)])⟩) hP hS dX6_reader_102
    by_cases q_3 : y = nI 3
    · skip
      subst q_3
      refine lv_tableIn (off := 79) (tgt := 103) hx hb dX6_reader_24 (by decide) (by decide) rfl (by decide) ?_
      refine lv_aload_n hx hb dX6_reader_103 rfl (lv_at hl 0 rfl) ?_
      refine kget X hP oX g_X6_12 rfl dX6_reader_104 ?_
      refine lv_aload_n hx hb dX6_reader_107 rfl (lv_at hl 3 rfl) ?_
      refine kcV X hP hS (c_X4_dueOf l hI (j := 0) (n := n) (r := r) (P := P) (by omega) hn hn4 (by omega) (fun c hc => ⟨(hp c hc).1, (hp c hc).2.2⟩)) (oS (j := 0) (by omega)) v_X6_72 ⟨Nat.le_of_ble_eq_true rfl, Nat.le_of_ble_eq_true rfl, rfl, rfl⟩ rfl rfl (Nat.le_of_ble_eq_true rfl) hl.1 ⟨Nat.zero_le _, Nat.zero_le _⟩ dX6_reader_108 (fun r_108 G_108 H locs hR hP hS => ?_)
      obtain ⟨rfl, hG_108⟩ := hR
      rw [hG_108] at hP
      clear hG_108
      exact hret _ _ _ _ _ _ (⟨rfl, rdP_h hr hn4 (by rw [rdC, if_neg q_0, if_neg q_1, if_neg q_2, if_pos (rfl : nI 3 = nI 3)])⟩) hP hS dX6_reader_111
    by_cases q_4 : y = nI 4
    · skip
      subst q_4
      refine lv_tableIn (off := 88) (tgt := 112) hx hb dX6_reader_24 (by decide) (by decide) rfl (by decide) ?_
      refine lv_aload_n hx hb dX6_reader_112 rfl (lv_at hl 3 rfl) ?_
      refine kget X hP (oR (j := 0) (r := r) (by omega) (by omega)) g_X6_109 rfl dX6_reader_113 ?_
      exact hret _ _ _ _ _ _ (⟨rfl, rdP_h hr hn4 (by rw [rdC, if_neg q_0, if_neg q_1, if_neg q_2, if_neg q_3, if_pos (rfl : nI 4 = nI 4)])⟩) hP hS dX6_reader_116
    by_cases q_5 : y = nI 5
    · skip
      subst q_5
      refine lv_tableIn (off := 93) (tgt := 117) hx hb dX6_reader_24 (by decide) (by decide) rfl (by decide) ?_
      refine lv_aload_n hx hb dX6_reader_117 rfl (lv_at hl 3 rfl) ?_
      refine kget X hP (oR (j := 0) (r := r) (by omega) (by omega)) g_X6_195 rfl dX6_reader_118 ?_
      exact hret _ _ _ _ _ _ (⟨rfl, rdP_h hr hn4 (by rw [rdC, if_neg q_0, if_neg q_1, if_neg q_2, if_neg q_3, if_neg q_4, if_pos (rfl : nI 5 = nI 5)])⟩) hP hS dX6_reader_121
    by_cases q_6 : y = nI 6
    · skip
      subst q_6
      refine lv_tableIn (off := 98) (tgt := 122) hx hb dX6_reader_24 (by decide) (by decide) rfl (by decide) ?_
      refine lv_aload_n hx hb dX6_reader_122 rfl (lv_at hl 3 rfl) ?_
      refine kget X hP (oR (j := 0) (r := r) (by omega) (by omega)) g_X6_76 rfl dX6_reader_123 ?_
      exact hret _ _ _ _ _ _ (⟨rfl, rdP_h hr hn4 (by rw [rdC, if_neg q_0, if_neg q_1, if_neg q_2, if_neg q_3, if_neg q_4, if_neg q_5, if_pos (rfl : nI 6 = nI 6)])⟩) hP hS dX6_reader_126
    by_cases q_7 : y = nI 7
    · skip
      subst q_7
      refine lv_tableIn (off := 103) (tgt := 127) hx hb dX6_reader_24 (by decide) (by decide) rfl (by decide) ?_
      refine lv_aload_n hx hb dX6_reader_127 rfl (lv_at hl 3 rfl) ?_
      refine kget X hP (oR (j := 0) (r := r) (by omega) (by omega)) g_X6_198 rfl dX6_reader_128 ?_
      exact hret _ _ _ _ _ _ (⟨rfl, rdP_h hr hn4 (by rw [rdC, if_neg q_0, if_neg q_1, if_neg q_2, if_neg q_3, if_neg q_4, if_neg q_5, if_neg q_6, if_pos (rfl : nI 7 = nI 7)])⟩) hP hS dX6_reader_131
    by_cases q_8 : y = nI 8
    · skip
      subst q_8
      refine lv_tableIn (off := 108) (tgt := 132) hx hb dX6_reader_24 (by decide) (by decide) rfl (by decide) ?_
      refine lv_aload_n hx hb dX6_reader_132 rfl (lv_at hl 3 rfl) ?_
      refine kcV X hP hS (c_X3_isOpen l hI (j := 0) (by omega) (by omega)) (oR (j := 0) (r := r) (by omega) (by omega)) v_X6_59 ⟨Nat.le_of_ble_eq_true rfl, Nat.le_of_ble_eq_true rfl, rfl, rfl⟩ rfl rfl (Nat.le_of_ble_eq_true rfl) hl.1 ⟨Nat.zero_le _, Nat.zero_le _⟩ dX6_reader_133 (fun r_133 G_133 H locs hR hP hS => ?_)
      obtain ⟨rfl, hG_133⟩ := hR
      rw [hG_133] at hP
      clear hG_133
      first
        | refine kif_eq (tgt := 150) hx hb dX6_reader_136 (by decide) (fun c_136 => ?_) (fun c_136 => ?_)
        | refine lv_if_eq (tgt := 150) hx hb dX6_reader_136 (by decide) (fun c_136 => ?_) (fun c_136 => ?_)
      · skip
        refine lv_iconst (v := nI 0) hx hb dX6_reader_150 (by decide) ?_
        exact hret _ _ _ _ _ _ (⟨rfl, rdP_h hr hn4 (by rw [rdC, if_neg q_0, if_neg q_1, if_neg q_2, if_neg q_3, if_neg q_4, if_neg q_5, if_neg q_6, if_neg q_7, if_pos (rfl : nI 8 = nI 8), if_neg c_136])⟩) hP hS dX6_reader_151
      · skip
        refine lv_aload_n hx hb dX6_reader_139 rfl (lv_at hl 0 rfl) ?_
        refine kget X hP oX g_X6_12 rfl dX6_reader_140 ?_
        refine lv_aload_n hx hb dX6_reader_143 rfl (lv_at hl 3 rfl) ?_
        refine kcV X hP hS (c_X4_oldVersionsSeenBy l hI (j := 0) (P := P) (by omega) (by omega) (fun c hc => ⟨(hp c hc).1, (hp c hc).2.2⟩)) (oS (j := 0) (by omega)) v_X6_201 ⟨Nat.le_of_ble_eq_true rfl, Nat.le_of_ble_eq_true rfl, rfl, rfl⟩ rfl rfl (Nat.le_of_ble_eq_true rfl) hl.1 ⟨Nat.zero_le _, Nat.zero_le _⟩ dX6_reader_144 (fun r_144 G_144 H locs hR hP hS => ?_)
        obtain ⟨rfl, hG_144⟩ := hR
        rw [hG_144] at hP
        clear hG_144
        refine lv_goto (tgt := 151) hx hb dX6_reader_147 (by decide) ?_
        exact hret _ _ _ _ _ _ (⟨rfl, rdP_h hr hn4 (by rw [rdC, if_neg q_0, if_neg q_1, if_neg q_2, if_neg q_3, if_neg q_4, if_neg q_5, if_neg q_6, if_neg q_7, if_pos (rfl : nI 8 = nI 8), if_pos c_136])⟩) hP hS dX6_reader_151
    by_cases q_9 : y = nI 9
    · skip
      subst q_9
      refine lv_tableIn (off := 128) (tgt := 152) hx hb dX6_reader_24 (by decide) (by decide) rfl (by decide) ?_
      refine lv_aload_n hx hb dX6_reader_152 rfl (lv_at hl 3 rfl) ?_
      refine kcV X hP hS (c_X3_isOpen l hI (j := 0) (by omega) (by omega)) (oR (j := 0) (r := r) (by omega) (by omega)) v_X6_59 ⟨Nat.le_of_ble_eq_true rfl, Nat.le_of_ble_eq_true rfl, rfl, rfl⟩ rfl rfl (Nat.le_of_ble_eq_true rfl) hl.1 ⟨Nat.zero_le _, Nat.zero_le _⟩ dX6_reader_153 (fun r_153 G_153 H locs hR hP hS => ?_)
      obtain ⟨rfl, hG_153⟩ := hR
      rw [hG_153] at hP
      clear hG_153
      first
        | refine kif_eq (tgt := 170) hx hb dX6_reader_156 (by decide) (fun c_156 => ?_) (fun c_156 => ?_)
        | refine lv_if_eq (tgt := 170) hx hb dX6_reader_156 (by decide) (fun c_156 => ?_) (fun c_156 => ?_)
      · skip
        refine lv_iconst (v := nI 0) hx hb dX6_reader_170 (by decide) ?_
        exact hret _ _ _ _ _ _ (⟨rfl, rdP_h hr hn4 (by rw [rdC, if_neg q_0, if_neg q_1, if_neg q_2, if_neg q_3, if_neg q_4, if_neg q_5, if_neg q_6, if_neg q_7, if_neg q_8, if_pos (rfl : nI 9 = nI 9), if_neg c_156])⟩) hP hS dX6_reader_171
      · skip
        refine lv_aload_n hx hb dX6_reader_159 rfl (lv_at hl 0 rfl) ?_
        refine kget X hP oX g_X6_12 rfl dX6_reader_160 ?_
        refine lv_aload_n hx hb dX6_reader_163 rfl (lv_at hl 3 rfl) ?_
        refine kcV X hP hS (c_X4_sumSeenBy l hI (j := 0) (P := P) (by omega) (by omega) (fun c hc => ⟨(hp c hc).1, (hp c hc).2.2⟩)) (oS (j := 0) (by omega)) v_X6_204 ⟨Nat.le_of_ble_eq_true rfl, Nat.le_of_ble_eq_true rfl, rfl, rfl⟩ rfl rfl (Nat.le_of_ble_eq_true rfl) hl.1 ⟨Nat.zero_le _, Nat.zero_le _⟩ dX6_reader_164 (fun r_164 G_164 H locs hR hP hS => ?_)
        obtain ⟨rfl, hG_164⟩ := hR
        rw [hG_164] at hP
        clear hG_164
        refine lv_goto (tgt := 171) hx hb dX6_reader_167 (by decide) ?_
        exact hret _ _ _ _ _ _ (⟨rfl, rdP_h hr hn4 (by rw [rdC, if_neg q_0, if_neg q_1, if_neg q_2, if_neg q_3, if_neg q_4, if_neg q_5, if_neg q_6, if_neg q_7, if_neg q_8, if_pos (rfl : nI 9 = nI 9), if_pos c_156])⟩) hP hS dX6_reader_171
    by_cases q_10 : y = nI 10
    · skip
      subst q_10
      refine lv_tableIn (off := 148) (tgt := 172) hx hb dX6_reader_24 (by decide) (by decide) rfl (by decide) ?_
      refine lv_aload_n hx hb dX6_reader_172 rfl (lv_at hl 3 rfl) ?_
      refine kcV X hP hS (c_X3_isOpen l hI (j := 0) (by omega) (by omega)) (oR (j := 0) (r := r) (by omega) (by omega)) v_X6_59 ⟨Nat.le_of_ble_eq_true rfl, Nat.le_of_ble_eq_true rfl, rfl, rfl⟩ rfl rfl (Nat.le_of_ble_eq_true rfl) hl.1 ⟨Nat.zero_le _, Nat.zero_le _⟩ dX6_reader_173 (fun r_173 G_173 H locs hR hP hS => ?_)
      obtain ⟨rfl, hG_173⟩ := hR
      rw [hG_173] at hP
      clear hG_173
      first
        | refine kif_eq (tgt := 194) hx hb dX6_reader_176 (by decide) (fun c_176 => ?_) (fun c_176 => ?_)
        | refine lv_if_eq (tgt := 194) hx hb dX6_reader_176 (by decide) (fun c_176 => ?_) (fun c_176 => ?_)
      · skip
        refine lv_iconst (v := nI 0) hx hb dX6_reader_194 (by decide) ?_
        exact hret _ _ _ _ _ _ (⟨rfl, rdP_h hr hn4 (by rw [rdC, if_neg q_0, if_neg q_1, if_neg q_2, if_neg q_3, if_neg q_4, if_neg q_5, if_neg q_6, if_neg q_7, if_neg q_8, if_neg q_9, if_pos (rfl : nI 10 = nI 10), if_neg (fun z => c_176 z.1)])⟩) hP hS dX6_reader_195
      · skip
        refine lv_aload_n hx hb dX6_reader_179 rfl (lv_at hl 0 rfl) ?_
        refine kget X hP oX g_X6_12 rfl dX6_reader_180 ?_
        refine lv_aload_n hx hb dX6_reader_183 rfl (lv_at hl 3 rfl) ?_
        refine kcV X hP hS (c_X4_hasConflict l hI (j := 0) (by omega) (by omega)) (oS (j := 0) (by omega)) v_X6_130 ⟨Nat.le_of_ble_eq_true rfl, Nat.le_of_ble_eq_true rfl, rfl, rfl⟩ rfl rfl (Nat.le_of_ble_eq_true rfl) hl.1 ⟨Nat.zero_le _, Nat.zero_le _⟩ dX6_reader_184 (fun r_184 G_184 H locs hR hP hS => ?_)
        obtain ⟨rfl, hG_184⟩ := hR
        rw [hG_184] at hP
        clear hG_184
        first
          | refine kif_eq (tgt := 194) hx hb dX6_reader_187 (by decide) (fun c_187 => ?_) (fun c_187 => ?_)
          | refine lv_if_eq (tgt := 194) hx hb dX6_reader_187 (by decide) (fun c_187 => ?_) (fun c_187 => ?_)
        · skip
          refine lv_iconst (v := nI 0) hx hb dX6_reader_194 (by decide) ?_
          exact hret _ _ _ _ _ _ (⟨rfl, rdP_h hr hn4 (by rw [rdC, if_neg q_0, if_neg q_1, if_neg q_2, if_neg q_3, if_neg q_4, if_neg q_5, if_neg q_6, if_neg q_7, if_neg q_8, if_neg q_9, if_pos (rfl : nI 10 = nI 10), if_neg (fun z => c_187 z.2)])⟩) hP hS dX6_reader_195
        · skip
          refine lv_iconst (v := nI 1) hx hb dX6_reader_190 (by decide) ?_
          refine lv_goto (tgt := 195) hx hb dX6_reader_191 (by decide) ?_
          exact hret _ _ _ _ _ _ (⟨rfl, rdP_h hr hn4 (by rw [rdC, if_neg q_0, if_neg q_1, if_neg q_2, if_neg q_3, if_neg q_4, if_neg q_5, if_neg q_6, if_neg q_7, if_neg q_8, if_neg q_9, if_pos (rfl : nI 10 = nI 10), if_pos ⟨c_176, c_187⟩])⟩) hP hS dX6_reader_195
    by_cases q_11 : y = nI 11
    · skip
      subst q_11
      refine lv_tableIn (off := 172) (tgt := 196) hx hb dX6_reader_24 (by decide) (by decide) rfl (by decide) ?_
      refine lv_aload_n hx hb dX6_reader_196 rfl (lv_at hl 3 rfl) ?_
      refine kcV X hP hS (c_X3_isOpen l hI (j := 0) (by omega) (by omega)) (oR (j := 0) (r := r) (by omega) (by omega)) v_X6_59 ⟨Nat.le_of_ble_eq_true rfl, Nat.le_of_ble_eq_true rfl, rfl, rfl⟩ rfl rfl (Nat.le_of_ble_eq_true rfl) hl.1 ⟨Nat.zero_le _, Nat.zero_le _⟩ dX6_reader_197 (fun r_197 G_197 H locs hR hP hS => ?_)
      obtain ⟨rfl, hG_197⟩ := hR
      rw [hG_197] at hP
      clear hG_197
      first
        | refine kif_eq (tgt := 214) hx hb dX6_reader_200 (by decide) (fun c_200 => ?_) (fun c_200 => ?_)
        | refine lv_if_eq (tgt := 214) hx hb dX6_reader_200 (by decide) (fun c_200 => ?_) (fun c_200 => ?_)
      · skip
        refine lv_iconst (v := nI 0) hx hb dX6_reader_214 (by decide) ?_
        exact hret _ _ _ _ _ _ (⟨rfl, rdP_h hr hn4 (by rw [rdC, if_neg q_0, if_neg q_1, if_neg q_2, if_neg q_3, if_neg q_4, if_neg q_5, if_neg q_6, if_neg q_7, if_neg q_8, if_neg q_9, if_neg q_10, if_pos (rfl : nI 11 = nI 11), if_neg c_200])⟩) hP hS dX6_reader_215
      · skip
        refine lv_aload_n hx hb dX6_reader_203 rfl (lv_at hl 0 rfl) ?_
        refine kget X hP oX g_X6_12 rfl dX6_reader_204 ?_
        refine lv_aload_n hx hb dX6_reader_207 rfl (lv_at hl 3 rfl) ?_
        refine kcV X hP hS (c_X4_skewsOf l hI (j := 0) (k := k) (by omega) hk hk4 (by omega)) (oS (j := 0) (by omega)) v_X6_134 ⟨Nat.le_of_ble_eq_true rfl, Nat.le_of_ble_eq_true rfl, rfl, rfl⟩ rfl rfl (Nat.le_of_ble_eq_true rfl) hl.1 ⟨Nat.zero_le _, Nat.zero_le _⟩ dX6_reader_208 (fun r_208 G_208 H locs hR hP hS => ?_)
        obtain ⟨rfl, hG_208⟩ := hR
        rw [hG_208] at hP
        clear hG_208
        refine lv_goto (tgt := 215) hx hb dX6_reader_211 (by decide) ?_
        exact hret _ _ _ _ _ _ (⟨rfl, rdP_h hr hn4 (by rw [rdC, if_neg q_0, if_neg q_1, if_neg q_2, if_neg q_3, if_neg q_4, if_neg q_5, if_neg q_6, if_neg q_7, if_neg q_8, if_neg q_9, if_neg q_10, if_pos (rfl : nI 11 = nI 11), if_pos c_200])⟩) hP hS dX6_reader_215
    refine lv_tableOut (tgt := 216) hx hb dX6_reader_24 (tb_out 11 (by decide) (fun i hi => by
        rcases (show i = 0 ∨ i = 1 ∨ i = 2 ∨ i = 3 ∨ i = 4 ∨ i = 5 ∨ i = 6 ∨ i = 7 ∨ i = 8 ∨ i = 9 ∨ i = 10 ∨ i = 11 by omega) with rfl | rfl | rfl | rfl | rfl | rfl | rfl | rfl | rfl | rfl | rfl | rfl <;> assumption)) (by decide) ?_
    refine lv_bipush (v := (-2)) hx hb dX6_reader_216 (by decide) ?_
    exact hret _ _ _ _ _ _ (⟨rfl, rdP_h hr hn4 (by rw [rdC, if_neg q_0, if_neg q_1, if_neg q_2, if_neg q_3, if_neg q_4, if_neg q_5, if_neg q_6, if_neg q_7, if_neg q_8, if_neg q_9, if_neg q_10, if_neg q_11])⟩) hP hS dX6_reader_218
  · skip
    have hms := hsR_no hn4 (by rw [hn] at c_8; exact c_8)
    refine lv_iconst (v := (-1)) hx hb dX6_reader_11 (by decide) ?_
    exact hret _ _ _ _ _ _ (⟨rfl, rdP_m hms rfl⟩) hP hS dX6_reader_12
end
section

/-- a commit's row is noted -/
def NCR (G G' : Nat → Nat → Int32) (j k r mm : Nat) : Prop := (∀ q, q ≠ mC j k → q ≠ sB j → G' q = G q) ∧ (∀ f, f ≠ 7 → G' (sB j) f = G (sB j) f) ∧ G' (sB j) 7 = nI (k + 1) ∧ G' (mC j k) 0 = nI r ∧ G' (mC j k) 1 = G (rN j r) 2 ∧ G' (mC j k) 2 = nI (mm + 1) ∧ G' (mC j k) 3 = G (rN j r) 5 ∧ G' (mC j k) 4 = G (rN j r) 4 ∧ G' (mC j k) 5 = nI (cn (skN G j r) k)
/-- the writes are pushed -/
def PWR (G G' : Nat → Nat → Int32) (j r : Nat) (P : Nat → Nat) : Prop := (∀ c, c < 12 → (hw (G (rN j r) 5) c → PU G G' j c (P c) (G (rW j r) c) (G (sB j) 3)) ∧ (¬ hw (G (rN j r) 5) c → CS G G' j c)) ∧ ∀ k, (∀ c, c < 12 → k ≠ cB j c ∧ k ≠ cV j c ∧ k ≠ cM j c) → G' k = G k
def LNR (G G' : Nat → Nat → Int32) (j k r mm : Nat) (P : Nat → Nat) : Prop := if G (rN j r) 5 = 0 then G' = G else ∃ Ga, NCR G Ga j k r mm ∧ PWR (gs Ga (sB j) 3 (nI (mm + 1))) G' j r P
/-- the places of the cells behind the pushes -/
def ppF (G : Nat → Nat → Int32) (j r : Nat) (P : Nat → Nat) : Nat → Nat := fun c => if hw (G (rN j r) 5) c then P c + 1 else P c
theorem hw_0 {c : Nat} (h : c < 32) : ¬ hw 0 c := by
  have : ∀ c, c < 32 → ¬ hw 0 c := by decide +kernel
  exact this c h
theorem LNR_k {G G' : Nat → Nat → Int32} {j k r mm : Nat} {P : Nat → Nat} (hk4 : k < 40) (hr : r < 40) (hp : ∀ c, c < 12 → G (cB j c) 2 = nI (P c)) (h : LNR G G' j k r mm P) : (∀ f, f ≠ 3 → f ≠ 7 → G' (sB j) f = G (sB j) f) ∧ (∀ c, c < 12 → G' (cB j c) 2 = nI (ppF G j r P c)) ∧ G' (rN j r) = G (rN j r) := by
  unfold LNR at h
  by_cases h0 : G (rN j r) 5 = 0
  · rw [if_pos h0] at h
    subst h
    refine ⟨fun _ _ _ => rfl, fun c hc => ?_, rfl⟩
    unfold ppF
    rw [h0, if_neg (hw_0 (by omega))]
    exact hp c hc
  · rw [if_neg h0] at h
    obtain ⟨Ga, h1, h2⟩ := h
    have er : Ga (rN j r) = G (rN j r) := h1.1 _ (by unfold rN mC; omega) (by unfold rN sB; omega)
    have er2 : gs Ga (sB j) 3 (nI (mm + 1)) (rN j r) = G (rN j r) := by rw [gs_other (by unfold rN sB; omega), er]
    refine ⟨fun f f3 f7 => ?_, fun c hc => ?_, ?_⟩
    · rw [h2.2 (sB j) (fun c hc => ⟨by unfold sB cB; omega, by unfold sB cV; omega, by unfold sB cM; omega⟩), gs_row f3]
      exact h1.2.1 f f7
    · obtain ⟨a, b⟩ := h2.1 c hc
      rw [er2] at a b
      unfold ppF
      by_cases q : hw (G (rN j r) 5) c
      · rw [if_pos q]; exact (a q).1
      · rw [if_neg q, (b q).1, gs_other (by unfold cB sB; omega), h1.1 _ (by unfold cB mC; omega) (by unfold cB sB; omega)]
        exact hp c hc
    · rw [h2.2 (rN j r) (fun c hc => ⟨by unfold rN cB; omega, by unfold rN cV; omega, by unfold rN cM; omega⟩), er2]
/-- the dues are told, where they change -/
def TDR (G G' : Nat → Nat → Int32) (j n : Nat) (P : Nat → Nat) (dc : Int32) : Prop := (∀ k, k ≠ sD j → G' k = G k) ∧ (if dc = 0 then G' = G else ∀ t, t < n → G' (sD j) t = dueF G j n P t)
def TKR (G G' : Nat → Nat → Int32) (j n : Nat) (v : Int32) : Prop := v = fl (evN G j) n ∧ (∀ k, (∀ r, r < n → k ≠ rN j r) → G' k = G k) ∧ ∀ r, r < n → G' (rN j r) = tdR (G (rN j r)) (G (sD j) r)
def STR (G G' : Nat → Nat → Int32) (j n : Nat) (v : Int32) : Prop := v = fl (teN G j) n ∧ (∀ k, (∀ r, r < n → k ≠ rN j r) → G' k = G k) ∧ ∀ r, r < n → G' (rN j r) = stR (G (rN j r))
def RUR (G G' : Nat → Nat → Int32) (j n : Nat) (P : Nat → Nat) (v1 : Int32) : Prop := if v1 = 0 then G' = G else ∃ v, ruR G G' j n P v
/-- one tick -/
def TKS (G G' : Nat → Nat → Int32) (j n : Nat) (P : Nat → Nat) (dc dc' : Int32) : Prop := ∃ G1 G2 G3 G4 v1 v2, TDR G G1 j n P dc ∧ TKR G1 G2 j n v1 ∧ STR G2 G3 j n v2 ∧ RUR G3 G4 j n P v1 ∧ G' = gs G4 (sB j) 4 (G4 (sB j) 4 + nI 1) ∧ dc' = (if v1 = 0 ∧ v2 = 0 then nI 0 else nI 1)
def PLS (G : Nat → Nat → Int32) (j n : Nat) (P : Nat → Nat) : Prop := G (sB j) 6 = nI n ∧ ∀ c, c < 12 → G (cB j c) 2 = nI (P c) ∧ 1 ≤ P c ∧ P c ≤ 10
theorem RUR_6 {G G' : Nat → Nat → Int32} {j n : Nat} {P : Nat → Nat} {v1 : Int32} (h : RUR G G' j n P v1) : G' (sB j) 6 = G (sB j) 6 := by
  unfold RUR at h
  split at h
  · rw [h]
  · obtain ⟨v, h⟩ := h
    exact h.2.2.1 6 (by omega)
set_option maxHeartbeats 4000000 in
set_option maxRecDepth 100000 in
theorem c_X4_land (l : Launch) {D : va_G} {τ : Nat → ClassId} {ad : Nat → Nat} (hI : kInj ad) {G : Nat → Nat → Int32} {j n k r mm : Nat} {P : Nat → Nat} (hj : j < 7) (hn : G (sB j) 6 = nI n) (hn4 : n ≤ 40) (hr : r < n) (hk : G (sB j) 7 = nI k) (hk4 : k < 40) (hm : G (sB j) 3 = nI mm) (hp : ∀ c, c < 12 → G (cB j c) 2 = nI (P c) ∧ 1 ≤ P c ∧ P c ≤ 9) : kMv l yX4_land cX4_land 3 { frames := 3, cells := 0, slots := 0, locals := 84 } D τ ad [.ref (ad (sB j)), .int (nI r)] G (fun G' => ∃ G1 u, LNR G G1 j k r mm P ∧ ruR (gs G1 (rN j r) 1 (nI 1)) G' j n (ppF G j r P) u) := by
  refine kMetV (own := RX4) (by decide) rfl (Nat.le_of_ble_eq_true rfl) ?_
  intro p9 e9 s9 m9 args9 below9 meth9 c9 Q9 X hx hb hP hS hret ls hl
  have hPs := hP
  have hl : lv_has ls 3 [(0, .ref (ad (sB j))), (1, .int (nI r))] := hl
  refine lv_aload_n hx hb dX4_land_0 rfl (lv_at hl 0 rfl) ?_
  refine kget X hP (oS hj) g_X4_19 rfl dX4_land_1 ?_
  refine lv_iload_n hx hb dX4_land_4 rfl (lv_at hl 1 rfl) ?_
  refine kaald X hP (qR hj) (by omega) rfl dX4_land_5 ?_
  refine kast hx hb dX4_land_6 rfl hl (by decide) (kp_2_2 rfl) (fun ls hl => ?_)
  refine lv_aload_n hx hb dX4_land_7 rfl (lv_at hl 2 rfl) ?_
  refine kget X hP (oR (r := r) hj (by omega)) g_X4_158 rfl dX4_land_8 ?_
  first
    | refine kif_eq (tgt := 34) hx hb dX4_land_11 (by decide) (fun c_11 => ?_) (fun c_11 => ?_)
    | refine lv_if_eq (tgt := 34) hx hb dX4_land_11 (by decide) (fun c_11 => ?_) (fun c_11 => ?_)
  · skip
    obtain ⟨G_31, hG31, h_31⟩ : ∃ G_31, G = G_31 ∧ LNR G G_31 j k r mm P := ⟨G, rfl, by rw [LNR, if_pos c_11]⟩
    rw [hG31] at hP
    have hq := LNR_k hk4 (by omega) (fun c hc => (hp c hc).1) h_31
    refine lv_aload_n hx hb dX4_land_34 rfl (lv_at hl 2 rfl) ?_
    refine lv_iconst (v := nI 1) hx hb dX4_land_35 (by decide) ?_
    refine kput X hI hP hS (oR (r := r) hj (by omega)) g_X4_73 (fun _ => rfl) rfl (fun _ => Nat.le_of_ble_eq_true rfl) rfl rfl dX4_land_36 (fun H locs hP hS => ?_)
    refine lv_aload_n hx hb dX4_land_39 rfl (lv_at hl 0 rfl) ?_
    refine kcV X hP hS (c_X4_removeUnseen l hI (j := j) (n := n) (P := ppF G j r P) hj (by rw [gs_other (by unfold sB rN; omega), hq.1 6 (by omega) (by omega)]; exact hn) hn4 (fun c hc => by rw [gs_other (by unfold cB rN; omega)]; refine ⟨hq.2.1 c hc, ?_, ?_⟩ <;> (have := hp c hc; unfold ppF; split <;> omega))) (oS hj) v_X4_130 ⟨Nat.le_of_ble_eq_true rfl, Nat.le_of_ble_eq_true rfl, rfl, rfl⟩ rfl rfl (Nat.le_of_ble_eq_true rfl) hl.1 ⟨Nat.zero_le _, Nat.zero_le _⟩ dX4_land_40 (fun r_40 G_40 H locs hR hP hS => ?_)
    have h_40 := hR
    refine lv_pop hx hb dX4_land_43 rfl ?_
    exact hret _ _ _ _ _ (⟨_, r_40, h_31, h_40⟩) hP hS dX4_land_44
  · skip
    refine lv_aload_n hx hb dX4_land_14 rfl (lv_at hl 0 rfl) ?_
    refine lv_iload_n hx hb dX4_land_15 rfl (lv_at hl 1 rfl) ?_
    refine kcVv X hP hS (c_X4_noteCommit l hI (n := n) (k := k) (r := r) (mm := mm) hj hk hk4 (by omega) hm) (oS hj) v_X4_161 ⟨Nat.le_of_ble_eq_true rfl, Nat.le_of_ble_eq_true rfl, rfl, rfl⟩ rfl rfl (Nat.le_of_ble_eq_true rfl) hl.1 ⟨Nat.zero_le _, Nat.zero_le _⟩ dX4_land_16 (fun G_16 H locs hR hP hS => ?_)
    have h_16 := hR
    refine lv_aload_n hx hb dX4_land_19 rfl (lv_at hl 0 rfl) ?_
    refine lv_dup hx hb dX4_land_20 rfl ?_
    refine kget X hP (oS hj) g_X4_56 (congrArg (fun z => some (Value.int z)) ((h_16.2.1 3 (by omega)).trans hm)) dX4_land_21 ?_
    refine lv_iconst (v := nI 1) hx hb dX4_land_24 (by decide) ?_
    first
      | refine kadd hx hb dX4_land_25 (by with_reducible rfl) (by with_reducible rfl) ?_
      | refine lv_iadd hx hb dX4_land_25 ?_
    refine kput X hI hP hS (oS hj) g_X4_56 (fun _ => rfl) rfl (fun _ => Nat.le_of_ble_eq_true rfl) rfl rfl dX4_land_26 (fun H locs hP hS => ?_)
    refine lv_aload_n hx hb dX4_land_29 rfl (lv_at hl 0 rfl) ?_
    refine lv_aload_n hx hb dX4_land_30 rfl (lv_at hl 2 rfl) ?_
    refine kcVv X hP hS (c_X4_pushWrites l hI (r := r) (P := P) hj (by omega) (fun c hc => by rw [gs_other (by unfold cB sB; omega), h_16.1 _ (by unfold cB mC; omega) (by unfold cB sB; omega)]; exact ⟨(hp c hc).1, (hp c hc).2.2⟩)) (oS hj) v_X4_165 ⟨Nat.le_of_ble_eq_true rfl, Nat.le_of_ble_eq_true rfl, rfl, rfl⟩ rfl rfl (Nat.le_of_ble_eq_true rfl) hl.1 ⟨Nat.zero_le _, Nat.zero_le _⟩ dX4_land_31 (fun G_31 H locs hR hP hS => ?_)
    have h_31 : LNR G G_31 j k r mm P := by rw [LNR, if_neg c_11]; exact ⟨_, h_16, hR⟩
    have hq := LNR_k hk4 (by omega) (fun c hc => (hp c hc).1) h_31
    refine lv_aload_n hx hb dX4_land_34 rfl (lv_at hl 2 rfl) ?_
    refine lv_iconst (v := nI 1) hx hb dX4_land_35 (by decide) ?_
    refine kput X hI hP hS (oR (r := r) hj (by omega)) g_X4_73 (fun _ => rfl) rfl (fun _ => Nat.le_of_ble_eq_true rfl) rfl rfl dX4_land_36 (fun H locs hP hS => ?_)
    refine lv_aload_n hx hb dX4_land_39 rfl (lv_at hl 0 rfl) ?_
    refine kcV X hP hS (c_X4_removeUnseen l hI (j := j) (n := n) (P := ppF G j r P) hj (by rw [gs_other (by unfold sB rN; omega), hq.1 6 (by omega) (by omega)]; exact hn) hn4 (fun c hc => by rw [gs_other (by unfold cB rN; omega)]; refine ⟨hq.2.1 c hc, ?_, ?_⟩ <;> (have := hp c hc; unfold ppF; split <;> omega))) (oS hj) v_X4_130 ⟨Nat.le_of_ble_eq_true rfl, Nat.le_of_ble_eq_true rfl, rfl, rfl⟩ rfl rfl (Nat.le_of_ble_eq_true rfl) hl.1 ⟨Nat.zero_le _, Nat.zero_le _⟩ dX4_land_40 (fun r_40 G_40 H locs hR hP hS => ?_)
    have h_40 := hR
    refine lv_pop hx hb dX4_land_43 rfl ?_
    exact hret _ _ _ _ _ (⟨_, r_40, h_31, h_40⟩) hP hS dX4_land_44

set_option maxHeartbeats 4000000 in
set_option maxRecDepth 100000 in
theorem c_X4_letTicksPass (l : Launch) {D : va_G} {τ : Nat → ClassId} {ad : Nat → Nat} (hI : kInj ad) {G : Nat → Nat → Int32} {j n K : Nat} {w : Int32} (hj : j < 7) (hn4 : n ≤ 40) (hK : K ≤ 1000) (Z Y : Nat → Int32 → (Nat → Nat → Int32) → Prop) (hw : ∀ i dc G1, Z i dc G1 → ∃ P, PLS G1 j n P) (hs : ∀ i dc dc' G1 G2 P, i < K → Z i dc G1 → PLS G1 j n P → TKS G1 G2 j n P dc dc' → Y (i + 1) dc' G2) (hz : ∀ i dc G1, Y i dc G1 → (∀ r, r < n → w = nI r → G1 (rN j r) 1 = 0) → Z i dc G1) (h0 : Z 0 (nI 1) G) : kMv l yX4_letTicksPass cX4_letTicksPass 7 { frames := 5, cells := 0, slots := 0, locals := 114 } D τ ad [.ref (ad (sB j)), .int (nI K), .int w] G (fun G' => (∃ dc, Z K dc G') ∨ ∃ i dc r, i ≤ K ∧ Y i dc G' ∧ r < n ∧ w = nI r ∧ ¬ G' (rN j r) 1 = 0) := by
  refine kMetV (own := RX4) (by decide) rfl (Nat.le_of_ble_eq_true rfl) ?_
  intro p9 e9 s9 m9 args9 below9 meth9 c9 Q9 X hx hb hP hS hret ls hl
  have hPs := hP
  have hl : lv_has ls 7 [(0, .ref (ad (sB j))), (1, .int (nI K)), (2, .int w)] := hl
  refine lv_iconst (v := nI 1) hx hb dX4_letTicksPass_0 (by decide) ?_
  refine kist hx hb dX4_letTicksPass_1 rfl hl (by decide) (kp_3_3 rfl) (fun ls hl => ?_)
  refine lv_iconst (v := nI 0) hx hb dX4_letTicksPass_2 (by decide) ?_
  refine kistW hx hb dX4_letTicksPass_3 hl (by decide) (kp_4_4 rfl) (fun ls hl => ?_)
  have lp_5 : ∀ (d : Nat) (i : Nat) (dc : Int32) (G1 : Nat → Nat → Int32) (H : Heap) (locs : List Loc) (ls : Array Slot), (K - i) < d → (i ≤ K) → (Z i dc G1) → va_P D vwCl (kW τ ad G1) H → va_S (kAd ad) s9.heap H locs → lv_has ls 7 [(0, .ref (ad (sB j))), (1, .int (nI K)), (2, .int w), (3, .int dc), (4, .int (nI i))] → W p9 l e9 { frames := 5, cells := 0, slots := 0, locals := 114 } s9 m9 args9 below9 meth9 c9 H locs 0 0 Q9 (F0 m9 5 ls []) := by
    intro d
    induction d with
    | zero => exact fun _ _ _ _ _ _ hd => absurd hd (Nat.not_lt_zero _)
    | succ d ih_5 =>
      intro i dc G1 H locs ls hd iv_0 iv_1 hP hS hl
      obtain ⟨P, hPL⟩ := hw i dc G1 iv_1
      refine lv_iload hx hb dX4_letTicksPass_5 (lv_at hl 4 rfl) ?_
      refine lv_iload_n hx hb dX4_letTicksPass_7 rfl (lv_at hl 1 rfl) ?_
      first
        | refine kic_ge (tgt := 94) hx hb dX4_letTicksPass_8 (by decide) (by with_reducible rfl) (by with_reducible rfl) (by omega) (by omega) (fun c_8 => ?_) (fun c_8 => ?_)
        | refine lv_icmp_ge (tgt := 94) hx hb dX4_letTicksPass_8 (by decide) (fun c_8 => ?_) (fun c_8 => ?_)
      · skip
        exact hret _ _ _ _ _ (Or.inl ⟨dc, by rw [show K = i by omega]; exact iv_1⟩) hP hS dX4_letTicksPass_94
      · skip
        refine lv_iload_n hx hb dX4_letTicksPass_11 rfl (lv_at hl 3 rfl) ?_
        first
          | refine kif_eq (tgt := 19) hx hb dX4_letTicksPass_12 (by decide) (fun c_12 => ?_) (fun c_12 => ?_)
          | refine lv_if_eq (tgt := 19) hx hb dX4_letTicksPass_12 (by decide) (fun c_12 => ?_) (fun c_12 => ?_)
        · skip
          obtain ⟨G_16, hG16, h_16⟩ : ∃ G_16, G1 = G_16 ∧ TDR G1 G_16 j n P dc := ⟨G1, rfl, fun _ _ => rfl, by rw [if_pos c_12]⟩
          rw [hG16] at hP
          have hn2 : G_16 (sB j) 6 = nI n := by rw [h_16.1 _ (by unfold sB sD; omega)]; exact hPL.1
          refine lv_aload_n hx hb dX4_letTicksPass_19 rfl (lv_at hl 0 rfl) ?_
          refine kcV X hP hS (c_X4_takeDues l hI (n := n) hj hn2 hn4) (oS hj) v_X4_124 ⟨Nat.le_of_ble_eq_true rfl, Nat.le_of_ble_eq_true rfl, rfl, rfl⟩ rfl rfl (Nat.le_of_ble_eq_true rfl) hl.1 ⟨Nat.zero_le _, Nat.zero_le _⟩ dX4_letTicksPass_20 (fun r_20 G_20 H locs hR hP hS => ?_)
          have h_20 : TKR G_16 G_20 j n r_20 := hR
          refine kistW hx hb dX4_letTicksPass_23 hl (by decide) (kp_5_5 rfl) (fun ls hl => ?_)
          have hn3 : G_20 (sB j) 6 = nI n := by rw [h_20.2.1 _ (fun r hr => by unfold sB rN; omega)]; exact hn2
          refine lv_aload_n hx hb dX4_letTicksPass_25 rfl (lv_at hl 0 rfl) ?_
          refine kcV X hP hS (c_X4_shortenTerms l hI (n := n) hj hn3 hn4) (oS hj) v_X4_127 ⟨Nat.le_of_ble_eq_true rfl, Nat.le_of_ble_eq_true rfl, rfl, rfl⟩ rfl rfl (Nat.le_of_ble_eq_true rfl) hl.1 ⟨Nat.zero_le _, Nat.zero_le _⟩ dX4_letTicksPass_26 (fun r_26 G_26 H locs hR hP hS => ?_)
          have h_26 : STR G_20 G_26 j n r_26 := hR
          refine kistW hx hb dX4_letTicksPass_29 hl (by decide) (kp_6_6 rfl) (fun ls hl => ?_)
          have hn5 : G_26 (sB j) 6 = nI n := by rw [h_26.2.1 _ (fun r hr => by unfold sB rN; omega)]; exact hn3
          have hp3 : ∀ c, c < 12 → G_26 (cB j c) 2 = nI (P c) ∧ 1 ≤ P c ∧ P c ≤ 10 := fun c hc => by rw [h_26.2.1 _ (fun r hr => by unfold cB rN; omega), h_20.2.1 _ (fun r hr => by unfold cB rN; omega), h_16.1 _ (by unfold cB sD; omega)]; exact hPL.2 c hc
          refine lv_iload hx hb dX4_letTicksPass_31 (lv_at hl 5 rfl) ?_
          first
            | refine kif_eq (tgt := 41) hx hb dX4_letTicksPass_33 (by decide) (fun c_33 => ?_) (fun c_33 => ?_)
            | refine lv_if_eq (tgt := 41) hx hb dX4_letTicksPass_33 (by decide) (fun c_33 => ?_) (fun c_33 => ?_)
          · skip
            obtain ⟨G_37, hG37, h_37⟩ : ∃ G_37, G_26 = G_37 ∧ RUR G_26 G_37 j n P r_20 := ⟨G_26, rfl, by rw [RUR, if_pos c_33]⟩
            rw [hG37] at hP
            refine lv_iload hx hb dX4_letTicksPass_41 (lv_at hl 5 rfl) ?_
            first
              | refine kif_ne (tgt := 51) hx hb dX4_letTicksPass_43 (by decide) (fun c_43 => ?_) (fun c_43 => ?_)
              | refine lv_if_ne (tgt := 51) hx hb dX4_letTicksPass_43 (by decide) (fun c_43 => ?_) (fun c_43 => ?_)
            · skip
              exact absurd c_33 c_43
            · skip
              refine lv_iload hx hb dX4_letTicksPass_46 (lv_at hl 6 rfl) ?_
              first
                | refine kif_eq (tgt := 55) hx hb dX4_letTicksPass_48 (by decide) (fun c_48 => ?_) (fun c_48 => ?_)
                | refine lv_if_eq (tgt := 55) hx hb dX4_letTicksPass_48 (by decide) (fun c_48 => ?_) (fun c_48 => ?_)
              · skip
                refine lv_iconst (v := nI 0) hx hb dX4_letTicksPass_55 (by decide) ?_
                refine kist hx hb dX4_letTicksPass_56 rfl hl (by decide) (kp_7_3 rfl) (fun ls hl => ?_)
                refine lv_aload_n hx hb dX4_letTicksPass_57 rfl (lv_at hl 0 rfl) ?_
                refine lv_dup hx hb dX4_letTicksPass_58 rfl ?_
                refine kget X hP (oS hj) g_X4_59 rfl dX4_letTicksPass_59 ?_
                refine lv_iconst (v := nI 1) hx hb dX4_letTicksPass_62 (by decide) ?_
                first
                  | refine kadd hx hb dX4_letTicksPass_63 (by with_reducible rfl) (by with_reducible rfl) ?_
                  | refine lv_iadd hx hb dX4_letTicksPass_63 ?_
                refine kput X hI hP hS (oS hj) g_X4_59 (fun _ => rfl) rfl (fun _ => Nat.le_of_ble_eq_true rfl) rfl rfl dX4_letTicksPass_64 (fun H locs hP hS => ?_)
                have hn6 : (gs G_37 (sB j) 4 (G_37 (sB j) 4 + nI 1)) (sB j) 6 = nI n := by rw [gs_row (by omega), RUR_6 h_37]; exact hn5
                refine lv_aload_n hx hb dX4_letTicksPass_67 rfl (lv_at hl 0 rfl) ?_
                refine lv_iload_n hx hb dX4_letTicksPass_68 rfl (lv_at hl 2 rfl) ?_
                refine kcV X hP hS (c_X4_hasReader l hI (j := j) (x := w) hj) (oS hj) v_X4_134 ⟨Nat.le_of_ble_eq_true rfl, Nat.le_of_ble_eq_true rfl, rfl, rfl⟩ rfl rfl (Nat.le_of_ble_eq_true rfl) hl.1 ⟨Nat.zero_le _, Nat.zero_le _⟩ dX4_letTicksPass_69 (fun r_69 G_69 H locs hR hP hS => ?_)
                obtain ⟨rfl, hG_69⟩ := hR
                rw [hG_69] at hP
                clear hG_69
                first
                  | refine kif_eq (tgt := 88) hx hb dX4_letTicksPass_72 (by decide) (fun c_72 => ?_) (fun c_72 => ?_)
                  | refine lv_if_eq (tgt := 88) hx hb dX4_letTicksPass_72 (by decide) (fun c_72 => ?_) (fun c_72 => ?_)
                · skip
                  first
                    | refine kinc (q := 4) hx hb dX4_letTicksPass_88 hl rfl (by decide) (kp_7_4 rfl) (fun ls hl => ?_)
                    | refine kincG (q := 4) hx hb dX4_letTicksPass_88 hl rfl (by decide) (kp_7_4 rfl) (fun ls hl => ?_)
                  refine lv_goto (tgt := 5) hx hb dX4_letTicksPass_91 (by decide) ?_
                  exact ih_5 _ _ _ _ _ _ (by omega) (by omega) (hz (i + 1) _ _ (hs i dc _ G1 _ P (by omega) iv_1 hPL ⟨G_16, G_20, G_26, G_37, r_20, r_26, h_16, h_20, h_26, h_37, rfl, (if_pos ⟨c_33, c_48⟩).symm⟩) (fun r hr e => absurd e (hsR_no hn4 (by rw [hn6] at c_72; exact c_72) r hr))) hP hS (lv_sub hl [0,1,2,3,4] rfl)
                · skip
                  obtain ⟨r, hr, rfl⟩ := hsR_yes hn4 (by rw [hn6] at c_72; exact c_72)
                  refine lv_aload_n hx hb dX4_letTicksPass_75 rfl (lv_at hl 0 rfl) ?_
                  refine kget X hP (oS hj) g_X4_19 rfl dX4_letTicksPass_76 ?_
                  refine lv_iload_n hx hb dX4_letTicksPass_79 rfl (lv_at hl 2 rfl) ?_
                  refine kaald X hP (qR hj) (by omega) rfl dX4_letTicksPass_80 ?_
                  refine kcV X hP hS (c_X3_isOpen l hI (j := j) (r := r) hj (by omega)) (oR (r := r) hj (by omega)) v_X4_83 ⟨Nat.le_of_ble_eq_true rfl, Nat.le_of_ble_eq_true rfl, rfl, rfl⟩ rfl rfl (Nat.le_of_ble_eq_true rfl) hl.1 ⟨Nat.zero_le _, Nat.zero_le _⟩ dX4_letTicksPass_81 (fun r_81 G_81 H locs hR hP hS => ?_)
                  obtain ⟨rfl, hG_81⟩ := hR
                  rw [hG_81] at hP
                  clear hG_81
                  first
                    | refine kif_ne (tgt := 88) hx hb dX4_letTicksPass_84 (by decide) (fun c_84 => ?_) (fun c_84 => ?_)
                    | refine lv_if_ne (tgt := 88) hx hb dX4_letTicksPass_84 (by decide) (fun c_84 => ?_) (fun c_84 => ?_)
                  · skip
                    first
                      | refine kinc (q := 4) hx hb dX4_letTicksPass_88 hl rfl (by decide) (kp_7_4 rfl) (fun ls hl => ?_)
                      | refine kincG (q := 4) hx hb dX4_letTicksPass_88 hl rfl (by decide) (kp_7_4 rfl) (fun ls hl => ?_)
                    refine lv_goto (tgt := 5) hx hb dX4_letTicksPass_91 (by decide) ?_
                    exact ih_5 _ _ _ _ _ _ (by omega) (by omega) (hz (i + 1) _ _ (hs i dc _ G1 _ P (by omega) iv_1 hPL ⟨G_16, G_20, G_26, G_37, r_20, r_26, h_16, h_20, h_26, h_37, rfl, (if_pos ⟨c_33, c_48⟩).symm⟩) (fun t ht e => by rw [show t = r from ((nI_eq (by omega) (by omega)).mp e).symm]; exact c_84)) hP hS (lv_sub hl [0,1,2,3,4] rfl)
                  · skip
                    exact hret _ _ _ _ _ (Or.inr ⟨i + 1, _, r, by omega, hs i dc _ G1 _ P (by omega) iv_1 hPL ⟨G_16, G_20, G_26, G_37, r_20, r_26, h_16, h_20, h_26, h_37, rfl, (if_pos ⟨c_33, c_48⟩).symm⟩, hr, rfl, c_84⟩) hP hS dX4_letTicksPass_87
              · skip
                refine lv_iconst (v := nI 1) hx hb dX4_letTicksPass_51 (by decide) ?_
                refine lv_goto (tgt := 56) hx hb dX4_letTicksPass_52 (by decide) ?_
                refine kist hx hb dX4_letTicksPass_56 rfl hl (by decide) (kp_7_3 rfl) (fun ls hl => ?_)
                refine lv_aload_n hx hb dX4_letTicksPass_57 rfl (lv_at hl 0 rfl) ?_
                refine lv_dup hx hb dX4_letTicksPass_58 rfl ?_
                refine kget X hP (oS hj) g_X4_59 rfl dX4_letTicksPass_59 ?_
                refine lv_iconst (v := nI 1) hx hb dX4_letTicksPass_62 (by decide) ?_
                first
                  | refine kadd hx hb dX4_letTicksPass_63 (by with_reducible rfl) (by with_reducible rfl) ?_
                  | refine lv_iadd hx hb dX4_letTicksPass_63 ?_
                refine kput X hI hP hS (oS hj) g_X4_59 (fun _ => rfl) rfl (fun _ => Nat.le_of_ble_eq_true rfl) rfl rfl dX4_letTicksPass_64 (fun H locs hP hS => ?_)
                have hn6 : (gs G_37 (sB j) 4 (G_37 (sB j) 4 + nI 1)) (sB j) 6 = nI n := by rw [gs_row (by omega), RUR_6 h_37]; exact hn5
                refine lv_aload_n hx hb dX4_letTicksPass_67 rfl (lv_at hl 0 rfl) ?_
                refine lv_iload_n hx hb dX4_letTicksPass_68 rfl (lv_at hl 2 rfl) ?_
                refine kcV X hP hS (c_X4_hasReader l hI (j := j) (x := w) hj) (oS hj) v_X4_134 ⟨Nat.le_of_ble_eq_true rfl, Nat.le_of_ble_eq_true rfl, rfl, rfl⟩ rfl rfl (Nat.le_of_ble_eq_true rfl) hl.1 ⟨Nat.zero_le _, Nat.zero_le _⟩ dX4_letTicksPass_69 (fun r_69 G_69 H locs hR hP hS => ?_)
                obtain ⟨rfl, hG_69⟩ := hR
                rw [hG_69] at hP
                clear hG_69
                first
                  | refine kif_eq (tgt := 88) hx hb dX4_letTicksPass_72 (by decide) (fun c_72 => ?_) (fun c_72 => ?_)
                  | refine lv_if_eq (tgt := 88) hx hb dX4_letTicksPass_72 (by decide) (fun c_72 => ?_) (fun c_72 => ?_)
                · skip
                  first
                    | refine kinc (q := 4) hx hb dX4_letTicksPass_88 hl rfl (by decide) (kp_7_4 rfl) (fun ls hl => ?_)
                    | refine kincG (q := 4) hx hb dX4_letTicksPass_88 hl rfl (by decide) (kp_7_4 rfl) (fun ls hl => ?_)
                  refine lv_goto (tgt := 5) hx hb dX4_letTicksPass_91 (by decide) ?_
                  exact ih_5 _ _ _ _ _ _ (by omega) (by omega) (hz (i + 1) _ _ (hs i dc _ G1 _ P (by omega) iv_1 hPL ⟨G_16, G_20, G_26, G_37, r_20, r_26, h_16, h_20, h_26, h_37, rfl, (if_neg (fun z => c_48 z.2)).symm⟩) (fun r hr e => absurd e (hsR_no hn4 (by rw [hn6] at c_72; exact c_72) r hr))) hP hS (lv_sub hl [0,1,2,3,4] rfl)
                · skip
                  obtain ⟨r, hr, rfl⟩ := hsR_yes hn4 (by rw [hn6] at c_72; exact c_72)
                  refine lv_aload_n hx hb dX4_letTicksPass_75 rfl (lv_at hl 0 rfl) ?_
                  refine kget X hP (oS hj) g_X4_19 rfl dX4_letTicksPass_76 ?_
                  refine lv_iload_n hx hb dX4_letTicksPass_79 rfl (lv_at hl 2 rfl) ?_
                  refine kaald X hP (qR hj) (by omega) rfl dX4_letTicksPass_80 ?_
                  refine kcV X hP hS (c_X3_isOpen l hI (j := j) (r := r) hj (by omega)) (oR (r := r) hj (by omega)) v_X4_83 ⟨Nat.le_of_ble_eq_true rfl, Nat.le_of_ble_eq_true rfl, rfl, rfl⟩ rfl rfl (Nat.le_of_ble_eq_true rfl) hl.1 ⟨Nat.zero_le _, Nat.zero_le _⟩ dX4_letTicksPass_81 (fun r_81 G_81 H locs hR hP hS => ?_)
                  obtain ⟨rfl, hG_81⟩ := hR
                  rw [hG_81] at hP
                  clear hG_81
                  first
                    | refine kif_ne (tgt := 88) hx hb dX4_letTicksPass_84 (by decide) (fun c_84 => ?_) (fun c_84 => ?_)
                    | refine lv_if_ne (tgt := 88) hx hb dX4_letTicksPass_84 (by decide) (fun c_84 => ?_) (fun c_84 => ?_)
                  · skip
                    first
                      | refine kinc (q := 4) hx hb dX4_letTicksPass_88 hl rfl (by decide) (kp_7_4 rfl) (fun ls hl => ?_)
                      | refine kincG (q := 4) hx hb dX4_letTicksPass_88 hl rfl (by decide) (kp_7_4 rfl) (fun ls hl => ?_)
                    refine lv_goto (tgt := 5) hx hb dX4_letTicksPass_91 (by decide) ?_
                    exact ih_5 _ _ _ _ _ _ (by omega) (by omega) (hz (i + 1) _ _ (hs i dc _ G1 _ P (by omega) iv_1 hPL ⟨G_16, G_20, G_26, G_37, r_20, r_26, h_16, h_20, h_26, h_37, rfl, (if_neg (fun z => c_48 z.2)).symm⟩) (fun t ht e => by rw [show t = r from ((nI_eq (by omega) (by omega)).mp e).symm]; exact c_84)) hP hS (lv_sub hl [0,1,2,3,4] rfl)
                  · skip
                    exact hret _ _ _ _ _ (Or.inr ⟨i + 1, _, r, by omega, hs i dc _ G1 _ P (by omega) iv_1 hPL ⟨G_16, G_20, G_26, G_37, r_20, r_26, h_16, h_20, h_26, h_37, rfl, (if_neg (fun z => c_48 z.2)).symm⟩, hr, rfl, c_84⟩) hP hS dX4_letTicksPass_87
          · skip
            refine lv_aload_n hx hb dX4_letTicksPass_36 rfl (lv_at hl 0 rfl) ?_
            refine kcV X hP hS (c_X4_removeUnseen l hI (j := j) (n := n) (P := P) hj hn5 hn4 hp3) (oS hj) v_X4_130 ⟨Nat.le_of_ble_eq_true rfl, Nat.le_of_ble_eq_true rfl, rfl, rfl⟩ rfl rfl (Nat.le_of_ble_eq_true rfl) hl.1 ⟨Nat.zero_le _, Nat.zero_le _⟩ dX4_letTicksPass_37 (fun r_37 G_37 H locs hR hP hS => ?_)
            have h_37 : RUR G_26 G_37 j n P r_20 := by rw [RUR, if_neg c_33]; exact ⟨r_37, hR⟩
            refine lv_pop hx hb dX4_letTicksPass_40 rfl ?_
            refine lv_iload hx hb dX4_letTicksPass_41 (lv_at hl 5 rfl) ?_
            first
              | refine kif_ne (tgt := 51) hx hb dX4_letTicksPass_43 (by decide) (fun c_43 => ?_) (fun c_43 => ?_)
              | refine lv_if_ne (tgt := 51) hx hb dX4_letTicksPass_43 (by decide) (fun c_43 => ?_) (fun c_43 => ?_)
            · skip
              refine lv_iconst (v := nI 1) hx hb dX4_letTicksPass_51 (by decide) ?_
              refine lv_goto (tgt := 56) hx hb dX4_letTicksPass_52 (by decide) ?_
              refine kist hx hb dX4_letTicksPass_56 rfl hl (by decide) (kp_7_3 rfl) (fun ls hl => ?_)
              refine lv_aload_n hx hb dX4_letTicksPass_57 rfl (lv_at hl 0 rfl) ?_
              refine lv_dup hx hb dX4_letTicksPass_58 rfl ?_
              refine kget X hP (oS hj) g_X4_59 rfl dX4_letTicksPass_59 ?_
              refine lv_iconst (v := nI 1) hx hb dX4_letTicksPass_62 (by decide) ?_
              first
                | refine kadd hx hb dX4_letTicksPass_63 (by with_reducible rfl) (by with_reducible rfl) ?_
                | refine lv_iadd hx hb dX4_letTicksPass_63 ?_
              refine kput X hI hP hS (oS hj) g_X4_59 (fun _ => rfl) rfl (fun _ => Nat.le_of_ble_eq_true rfl) rfl rfl dX4_letTicksPass_64 (fun H locs hP hS => ?_)
              have hn6 : (gs G_37 (sB j) 4 (G_37 (sB j) 4 + nI 1)) (sB j) 6 = nI n := by rw [gs_row (by omega), RUR_6 h_37]; exact hn5
              refine lv_aload_n hx hb dX4_letTicksPass_67 rfl (lv_at hl 0 rfl) ?_
              refine lv_iload_n hx hb dX4_letTicksPass_68 rfl (lv_at hl 2 rfl) ?_
              refine kcV X hP hS (c_X4_hasReader l hI (j := j) (x := w) hj) (oS hj) v_X4_134 ⟨Nat.le_of_ble_eq_true rfl, Nat.le_of_ble_eq_true rfl, rfl, rfl⟩ rfl rfl (Nat.le_of_ble_eq_true rfl) hl.1 ⟨Nat.zero_le _, Nat.zero_le _⟩ dX4_letTicksPass_69 (fun r_69 G_69 H locs hR hP hS => ?_)
              obtain ⟨rfl, hG_69⟩ := hR
              rw [hG_69] at hP
              clear hG_69
              first
                | refine kif_eq (tgt := 88) hx hb dX4_letTicksPass_72 (by decide) (fun c_72 => ?_) (fun c_72 => ?_)
                | refine lv_if_eq (tgt := 88) hx hb dX4_letTicksPass_72 (by decide) (fun c_72 => ?_) (fun c_72 => ?_)
              · skip
                first
                  | refine kinc (q := 4) hx hb dX4_letTicksPass_88 hl rfl (by decide) (kp_7_4 rfl) (fun ls hl => ?_)
                  | refine kincG (q := 4) hx hb dX4_letTicksPass_88 hl rfl (by decide) (kp_7_4 rfl) (fun ls hl => ?_)
                refine lv_goto (tgt := 5) hx hb dX4_letTicksPass_91 (by decide) ?_
                exact ih_5 _ _ _ _ _ _ (by omega) (by omega) (hz (i + 1) _ _ (hs i dc _ G1 _ P (by omega) iv_1 hPL ⟨G_16, G_20, G_26, G_37, r_20, r_26, h_16, h_20, h_26, h_37, rfl, (if_neg (fun z => c_33 z.1)).symm⟩) (fun r hr e => absurd e (hsR_no hn4 (by rw [hn6] at c_72; exact c_72) r hr))) hP hS (lv_sub hl [0,1,2,3,4] rfl)
              · skip
                obtain ⟨r, hr, rfl⟩ := hsR_yes hn4 (by rw [hn6] at c_72; exact c_72)
                refine lv_aload_n hx hb dX4_letTicksPass_75 rfl (lv_at hl 0 rfl) ?_
                refine kget X hP (oS hj) g_X4_19 rfl dX4_letTicksPass_76 ?_
                refine lv_iload_n hx hb dX4_letTicksPass_79 rfl (lv_at hl 2 rfl) ?_
                refine kaald X hP (qR hj) (by omega) rfl dX4_letTicksPass_80 ?_
                refine kcV X hP hS (c_X3_isOpen l hI (j := j) (r := r) hj (by omega)) (oR (r := r) hj (by omega)) v_X4_83 ⟨Nat.le_of_ble_eq_true rfl, Nat.le_of_ble_eq_true rfl, rfl, rfl⟩ rfl rfl (Nat.le_of_ble_eq_true rfl) hl.1 ⟨Nat.zero_le _, Nat.zero_le _⟩ dX4_letTicksPass_81 (fun r_81 G_81 H locs hR hP hS => ?_)
                obtain ⟨rfl, hG_81⟩ := hR
                rw [hG_81] at hP
                clear hG_81
                first
                  | refine kif_ne (tgt := 88) hx hb dX4_letTicksPass_84 (by decide) (fun c_84 => ?_) (fun c_84 => ?_)
                  | refine lv_if_ne (tgt := 88) hx hb dX4_letTicksPass_84 (by decide) (fun c_84 => ?_) (fun c_84 => ?_)
                · skip
                  first
                    | refine kinc (q := 4) hx hb dX4_letTicksPass_88 hl rfl (by decide) (kp_7_4 rfl) (fun ls hl => ?_)
                    | refine kincG (q := 4) hx hb dX4_letTicksPass_88 hl rfl (by decide) (kp_7_4 rfl) (fun ls hl => ?_)
                  refine lv_goto (tgt := 5) hx hb dX4_letTicksPass_91 (by decide) ?_
                  exact ih_5 _ _ _ _ _ _ (by omega) (by omega) (hz (i + 1) _ _ (hs i dc _ G1 _ P (by omega) iv_1 hPL ⟨G_16, G_20, G_26, G_37, r_20, r_26, h_16, h_20, h_26, h_37, rfl, (if_neg (fun z => c_33 z.1)).symm⟩) (fun t ht e => by rw [show t = r from ((nI_eq (by omega) (by omega)).mp e).symm]; exact c_84)) hP hS (lv_sub hl [0,1,2,3,4] rfl)
                · skip
                  exact hret _ _ _ _ _ (Or.inr ⟨i + 1, _, r, by omega, hs i dc _ G1 _ P (by omega) iv_1 hPL ⟨G_16, G_20, G_26, G_37, r_20, r_26, h_16, h_20, h_26, h_37, rfl, (if_neg (fun z => c_33 z.1)).symm⟩, hr, rfl, c_84⟩) hP hS dX4_letTicksPass_87
            · skip
              exact absurd (by first | exact c_43 | exact Classical.not_not.mp c_43) c_33
        · skip
          refine lv_aload_n hx hb dX4_letTicksPass_15 rfl (lv_at hl 0 rfl) ?_
          refine kcVv X hP hS (c_X4_tellDues l hI (n := n) (P := P) hj hPL.1 hn4 (fun c hc => ⟨(hPL.2 c hc).1, (hPL.2 c hc).2.2⟩)) (oS hj) v_X4_121 ⟨Nat.le_of_ble_eq_true rfl, Nat.le_of_ble_eq_true rfl, rfl, rfl⟩ rfl rfl (Nat.le_of_ble_eq_true rfl) hl.1 ⟨Nat.zero_le _, Nat.zero_le _⟩ dX4_letTicksPass_16 (fun G_16 H locs hR hP hS => ?_)
          have h_16 : TDR G1 G_16 j n P dc := ⟨hR.1, by rw [if_neg c_12]; exact hR.2⟩
          have hn2 : G_16 (sB j) 6 = nI n := by rw [h_16.1 _ (by unfold sB sD; omega)]; exact hPL.1
          refine lv_aload_n hx hb dX4_letTicksPass_19 rfl (lv_at hl 0 rfl) ?_
          refine kcV X hP hS (c_X4_takeDues l hI (n := n) hj hn2 hn4) (oS hj) v_X4_124 ⟨Nat.le_of_ble_eq_true rfl, Nat.le_of_ble_eq_true rfl, rfl, rfl⟩ rfl rfl (Nat.le_of_ble_eq_true rfl) hl.1 ⟨Nat.zero_le _, Nat.zero_le _⟩ dX4_letTicksPass_20 (fun r_20 G_20 H locs hR hP hS => ?_)
          have h_20 : TKR G_16 G_20 j n r_20 := hR
          refine kistW hx hb dX4_letTicksPass_23 hl (by decide) (kp_5_5 rfl) (fun ls hl => ?_)
          have hn3 : G_20 (sB j) 6 = nI n := by rw [h_20.2.1 _ (fun r hr => by unfold sB rN; omega)]; exact hn2
          refine lv_aload_n hx hb dX4_letTicksPass_25 rfl (lv_at hl 0 rfl) ?_
          refine kcV X hP hS (c_X4_shortenTerms l hI (n := n) hj hn3 hn4) (oS hj) v_X4_127 ⟨Nat.le_of_ble_eq_true rfl, Nat.le_of_ble_eq_true rfl, rfl, rfl⟩ rfl rfl (Nat.le_of_ble_eq_true rfl) hl.1 ⟨Nat.zero_le _, Nat.zero_le _⟩ dX4_letTicksPass_26 (fun r_26 G_26 H locs hR hP hS => ?_)
          have h_26 : STR G_20 G_26 j n r_26 := hR
          refine kistW hx hb dX4_letTicksPass_29 hl (by decide) (kp_6_6 rfl) (fun ls hl => ?_)
          have hn5 : G_26 (sB j) 6 = nI n := by rw [h_26.2.1 _ (fun r hr => by unfold sB rN; omega)]; exact hn3
          have hp3 : ∀ c, c < 12 → G_26 (cB j c) 2 = nI (P c) ∧ 1 ≤ P c ∧ P c ≤ 10 := fun c hc => by rw [h_26.2.1 _ (fun r hr => by unfold cB rN; omega), h_20.2.1 _ (fun r hr => by unfold cB rN; omega), h_16.1 _ (by unfold cB sD; omega)]; exact hPL.2 c hc
          refine lv_iload hx hb dX4_letTicksPass_31 (lv_at hl 5 rfl) ?_
          first
            | refine kif_eq (tgt := 41) hx hb dX4_letTicksPass_33 (by decide) (fun c_33 => ?_) (fun c_33 => ?_)
            | refine lv_if_eq (tgt := 41) hx hb dX4_letTicksPass_33 (by decide) (fun c_33 => ?_) (fun c_33 => ?_)
          · skip
            obtain ⟨G_37, hG37, h_37⟩ : ∃ G_37, G_26 = G_37 ∧ RUR G_26 G_37 j n P r_20 := ⟨G_26, rfl, by rw [RUR, if_pos c_33]⟩
            rw [hG37] at hP
            refine lv_iload hx hb dX4_letTicksPass_41 (lv_at hl 5 rfl) ?_
            first
              | refine kif_ne (tgt := 51) hx hb dX4_letTicksPass_43 (by decide) (fun c_43 => ?_) (fun c_43 => ?_)
              | refine lv_if_ne (tgt := 51) hx hb dX4_letTicksPass_43 (by decide) (fun c_43 => ?_) (fun c_43 => ?_)
            · skip
              exact absurd c_33 c_43
            · skip
              refine lv_iload hx hb dX4_letTicksPass_46 (lv_at hl 6 rfl) ?_
              first
                | refine kif_eq (tgt := 55) hx hb dX4_letTicksPass_48 (by decide) (fun c_48 => ?_) (fun c_48 => ?_)
                | refine lv_if_eq (tgt := 55) hx hb dX4_letTicksPass_48 (by decide) (fun c_48 => ?_) (fun c_48 => ?_)
              · skip
                refine lv_iconst (v := nI 0) hx hb dX4_letTicksPass_55 (by decide) ?_
                refine kist hx hb dX4_letTicksPass_56 rfl hl (by decide) (kp_7_3 rfl) (fun ls hl => ?_)
                refine lv_aload_n hx hb dX4_letTicksPass_57 rfl (lv_at hl 0 rfl) ?_
                refine lv_dup hx hb dX4_letTicksPass_58 rfl ?_
                refine kget X hP (oS hj) g_X4_59 rfl dX4_letTicksPass_59 ?_
                refine lv_iconst (v := nI 1) hx hb dX4_letTicksPass_62 (by decide) ?_
                first
                  | refine kadd hx hb dX4_letTicksPass_63 (by with_reducible rfl) (by with_reducible rfl) ?_
                  | refine lv_iadd hx hb dX4_letTicksPass_63 ?_
                refine kput X hI hP hS (oS hj) g_X4_59 (fun _ => rfl) rfl (fun _ => Nat.le_of_ble_eq_true rfl) rfl rfl dX4_letTicksPass_64 (fun H locs hP hS => ?_)
                have hn6 : (gs G_37 (sB j) 4 (G_37 (sB j) 4 + nI 1)) (sB j) 6 = nI n := by rw [gs_row (by omega), RUR_6 h_37]; exact hn5
                refine lv_aload_n hx hb dX4_letTicksPass_67 rfl (lv_at hl 0 rfl) ?_
                refine lv_iload_n hx hb dX4_letTicksPass_68 rfl (lv_at hl 2 rfl) ?_
                refine kcV X hP hS (c_X4_hasReader l hI (j := j) (x := w) hj) (oS hj) v_X4_134 ⟨Nat.le_of_ble_eq_true rfl, Nat.le_of_ble_eq_true rfl, rfl, rfl⟩ rfl rfl (Nat.le_of_ble_eq_true rfl) hl.1 ⟨Nat.zero_le _, Nat.zero_le _⟩ dX4_letTicksPass_69 (fun r_69 G_69 H locs hR hP hS => ?_)
                obtain ⟨rfl, hG_69⟩ := hR
                rw [hG_69] at hP
                clear hG_69
                first
                  | refine kif_eq (tgt := 88) hx hb dX4_letTicksPass_72 (by decide) (fun c_72 => ?_) (fun c_72 => ?_)
                  | refine lv_if_eq (tgt := 88) hx hb dX4_letTicksPass_72 (by decide) (fun c_72 => ?_) (fun c_72 => ?_)
                · skip
                  first
                    | refine kinc (q := 4) hx hb dX4_letTicksPass_88 hl rfl (by decide) (kp_7_4 rfl) (fun ls hl => ?_)
                    | refine kincG (q := 4) hx hb dX4_letTicksPass_88 hl rfl (by decide) (kp_7_4 rfl) (fun ls hl => ?_)
                  refine lv_goto (tgt := 5) hx hb dX4_letTicksPass_91 (by decide) ?_
                  exact ih_5 _ _ _ _ _ _ (by omega) (by omega) (hz (i + 1) _ _ (hs i dc _ G1 _ P (by omega) iv_1 hPL ⟨G_16, G_20, G_26, G_37, r_20, r_26, h_16, h_20, h_26, h_37, rfl, (if_pos ⟨c_33, c_48⟩).symm⟩) (fun r hr e => absurd e (hsR_no hn4 (by rw [hn6] at c_72; exact c_72) r hr))) hP hS (lv_sub hl [0,1,2,3,4] rfl)
                · skip
                  obtain ⟨r, hr, rfl⟩ := hsR_yes hn4 (by rw [hn6] at c_72; exact c_72)
                  refine lv_aload_n hx hb dX4_letTicksPass_75 rfl (lv_at hl 0 rfl) ?_
                  refine kget X hP (oS hj) g_X4_19 rfl dX4_letTicksPass_76 ?_
                  refine lv_iload_n hx hb dX4_letTicksPass_79 rfl (lv_at hl 2 rfl) ?_
                  refine kaald X hP (qR hj) (by omega) rfl dX4_letTicksPass_80 ?_
                  refine kcV X hP hS (c_X3_isOpen l hI (j := j) (r := r) hj (by omega)) (oR (r := r) hj (by omega)) v_X4_83 ⟨Nat.le_of_ble_eq_true rfl, Nat.le_of_ble_eq_true rfl, rfl, rfl⟩ rfl rfl (Nat.le_of_ble_eq_true rfl) hl.1 ⟨Nat.zero_le _, Nat.zero_le _⟩ dX4_letTicksPass_81 (fun r_81 G_81 H locs hR hP hS => ?_)
                  obtain ⟨rfl, hG_81⟩ := hR
                  rw [hG_81] at hP
                  clear hG_81
                  first
                    | refine kif_ne (tgt := 88) hx hb dX4_letTicksPass_84 (by decide) (fun c_84 => ?_) (fun c_84 => ?_)
                    | refine lv_if_ne (tgt := 88) hx hb dX4_letTicksPass_84 (by decide) (fun c_84 => ?_) (fun c_84 => ?_)
                  · skip
                    first
                      | refine kinc (q := 4) hx hb dX4_letTicksPass_88 hl rfl (by decide) (kp_7_4 rfl) (fun ls hl => ?_)
                      | refine kincG (q := 4) hx hb dX4_letTicksPass_88 hl rfl (by decide) (kp_7_4 rfl) (fun ls hl => ?_)
                    refine lv_goto (tgt := 5) hx hb dX4_letTicksPass_91 (by decide) ?_
                    exact ih_5 _ _ _ _ _ _ (by omega) (by omega) (hz (i + 1) _ _ (hs i dc _ G1 _ P (by omega) iv_1 hPL ⟨G_16, G_20, G_26, G_37, r_20, r_26, h_16, h_20, h_26, h_37, rfl, (if_pos ⟨c_33, c_48⟩).symm⟩) (fun t ht e => by rw [show t = r from ((nI_eq (by omega) (by omega)).mp e).symm]; exact c_84)) hP hS (lv_sub hl [0,1,2,3,4] rfl)
                  · skip
                    exact hret _ _ _ _ _ (Or.inr ⟨i + 1, _, r, by omega, hs i dc _ G1 _ P (by omega) iv_1 hPL ⟨G_16, G_20, G_26, G_37, r_20, r_26, h_16, h_20, h_26, h_37, rfl, (if_pos ⟨c_33, c_48⟩).symm⟩, hr, rfl, c_84⟩) hP hS dX4_letTicksPass_87
              · skip
                refine lv_iconst (v := nI 1) hx hb dX4_letTicksPass_51 (by decide) ?_
                refine lv_goto (tgt := 56) hx hb dX4_letTicksPass_52 (by decide) ?_
                refine kist hx hb dX4_letTicksPass_56 rfl hl (by decide) (kp_7_3 rfl) (fun ls hl => ?_)
                refine lv_aload_n hx hb dX4_letTicksPass_57 rfl (lv_at hl 0 rfl) ?_
                refine lv_dup hx hb dX4_letTicksPass_58 rfl ?_
                refine kget X hP (oS hj) g_X4_59 rfl dX4_letTicksPass_59 ?_
                refine lv_iconst (v := nI 1) hx hb dX4_letTicksPass_62 (by decide) ?_
                first
                  | refine kadd hx hb dX4_letTicksPass_63 (by with_reducible rfl) (by with_reducible rfl) ?_
                  | refine lv_iadd hx hb dX4_letTicksPass_63 ?_
                refine kput X hI hP hS (oS hj) g_X4_59 (fun _ => rfl) rfl (fun _ => Nat.le_of_ble_eq_true rfl) rfl rfl dX4_letTicksPass_64 (fun H locs hP hS => ?_)
                have hn6 : (gs G_37 (sB j) 4 (G_37 (sB j) 4 + nI 1)) (sB j) 6 = nI n := by rw [gs_row (by omega), RUR_6 h_37]; exact hn5
                refine lv_aload_n hx hb dX4_letTicksPass_67 rfl (lv_at hl 0 rfl) ?_
                refine lv_iload_n hx hb dX4_letTicksPass_68 rfl (lv_at hl 2 rfl) ?_
                refine kcV X hP hS (c_X4_hasReader l hI (j := j) (x := w) hj) (oS hj) v_X4_134 ⟨Nat.le_of_ble_eq_true rfl, Nat.le_of_ble_eq_true rfl, rfl, rfl⟩ rfl rfl (Nat.le_of_ble_eq_true rfl) hl.1 ⟨Nat.zero_le _, Nat.zero_le _⟩ dX4_letTicksPass_69 (fun r_69 G_69 H locs hR hP hS => ?_)
                obtain ⟨rfl, hG_69⟩ := hR
                rw [hG_69] at hP
                clear hG_69
                first
                  | refine kif_eq (tgt := 88) hx hb dX4_letTicksPass_72 (by decide) (fun c_72 => ?_) (fun c_72 => ?_)
                  | refine lv_if_eq (tgt := 88) hx hb dX4_letTicksPass_72 (by decide) (fun c_72 => ?_) (fun c_72 => ?_)
                · skip
                  first
                    | refine kinc (q := 4) hx hb dX4_letTicksPass_88 hl rfl (by decide) (kp_7_4 rfl) (fun ls hl => ?_)
                    | refine kincG (q := 4) hx hb dX4_letTicksPass_88 hl rfl (by decide) (kp_7_4 rfl) (fun ls hl => ?_)
                  refine lv_goto (tgt := 5) hx hb dX4_letTicksPass_91 (by decide) ?_
                  exact ih_5 _ _ _ _ _ _ (by omega) (by omega) (hz (i + 1) _ _ (hs i dc _ G1 _ P (by omega) iv_1 hPL ⟨G_16, G_20, G_26, G_37, r_20, r_26, h_16, h_20, h_26, h_37, rfl, (if_neg (fun z => c_48 z.2)).symm⟩) (fun r hr e => absurd e (hsR_no hn4 (by rw [hn6] at c_72; exact c_72) r hr))) hP hS (lv_sub hl [0,1,2,3,4] rfl)
                · skip
                  obtain ⟨r, hr, rfl⟩ := hsR_yes hn4 (by rw [hn6] at c_72; exact c_72)
                  refine lv_aload_n hx hb dX4_letTicksPass_75 rfl (lv_at hl 0 rfl) ?_
                  refine kget X hP (oS hj) g_X4_19 rfl dX4_letTicksPass_76 ?_
                  refine lv_iload_n hx hb dX4_letTicksPass_79 rfl (lv_at hl 2 rfl) ?_
                  refine kaald X hP (qR hj) (by omega) rfl dX4_letTicksPass_80 ?_
                  refine kcV X hP hS (c_X3_isOpen l hI (j := j) (r := r) hj (by omega)) (oR (r := r) hj (by omega)) v_X4_83 ⟨Nat.le_of_ble_eq_true rfl, Nat.le_of_ble_eq_true rfl, rfl, rfl⟩ rfl rfl (Nat.le_of_ble_eq_true rfl) hl.1 ⟨Nat.zero_le _, Nat.zero_le _⟩ dX4_letTicksPass_81 (fun r_81 G_81 H locs hR hP hS => ?_)
                  obtain ⟨rfl, hG_81⟩ := hR
                  rw [hG_81] at hP
                  clear hG_81
                  first
                    | refine kif_ne (tgt := 88) hx hb dX4_letTicksPass_84 (by decide) (fun c_84 => ?_) (fun c_84 => ?_)
                    | refine lv_if_ne (tgt := 88) hx hb dX4_letTicksPass_84 (by decide) (fun c_84 => ?_) (fun c_84 => ?_)
                  · skip
                    first
                      | refine kinc (q := 4) hx hb dX4_letTicksPass_88 hl rfl (by decide) (kp_7_4 rfl) (fun ls hl => ?_)
                      | refine kincG (q := 4) hx hb dX4_letTicksPass_88 hl rfl (by decide) (kp_7_4 rfl) (fun ls hl => ?_)
                    refine lv_goto (tgt := 5) hx hb dX4_letTicksPass_91 (by decide) ?_
                    exact ih_5 _ _ _ _ _ _ (by omega) (by omega) (hz (i + 1) _ _ (hs i dc _ G1 _ P (by omega) iv_1 hPL ⟨G_16, G_20, G_26, G_37, r_20, r_26, h_16, h_20, h_26, h_37, rfl, (if_neg (fun z => c_48 z.2)).symm⟩) (fun t ht e => by rw [show t = r from ((nI_eq (by omega) (by omega)).mp e).symm]; exact c_84)) hP hS (lv_sub hl [0,1,2,3,4] rfl)
                  · skip
                    exact hret _ _ _ _ _ (Or.inr ⟨i + 1, _, r, by omega, hs i dc _ G1 _ P (by omega) iv_1 hPL ⟨G_16, G_20, G_26, G_37, r_20, r_26, h_16, h_20, h_26, h_37, rfl, (if_neg (fun z => c_48 z.2)).symm⟩, hr, rfl, c_84⟩) hP hS dX4_letTicksPass_87
          · skip
            refine lv_aload_n hx hb dX4_letTicksPass_36 rfl (lv_at hl 0 rfl) ?_
            refine kcV X hP hS (c_X4_removeUnseen l hI (j := j) (n := n) (P := P) hj hn5 hn4 hp3) (oS hj) v_X4_130 ⟨Nat.le_of_ble_eq_true rfl, Nat.le_of_ble_eq_true rfl, rfl, rfl⟩ rfl rfl (Nat.le_of_ble_eq_true rfl) hl.1 ⟨Nat.zero_le _, Nat.zero_le _⟩ dX4_letTicksPass_37 (fun r_37 G_37 H locs hR hP hS => ?_)
            have h_37 : RUR G_26 G_37 j n P r_20 := by rw [RUR, if_neg c_33]; exact ⟨r_37, hR⟩
            refine lv_pop hx hb dX4_letTicksPass_40 rfl ?_
            refine lv_iload hx hb dX4_letTicksPass_41 (lv_at hl 5 rfl) ?_
            first
              | refine kif_ne (tgt := 51) hx hb dX4_letTicksPass_43 (by decide) (fun c_43 => ?_) (fun c_43 => ?_)
              | refine lv_if_ne (tgt := 51) hx hb dX4_letTicksPass_43 (by decide) (fun c_43 => ?_) (fun c_43 => ?_)
            · skip
              refine lv_iconst (v := nI 1) hx hb dX4_letTicksPass_51 (by decide) ?_
              refine lv_goto (tgt := 56) hx hb dX4_letTicksPass_52 (by decide) ?_
              refine kist hx hb dX4_letTicksPass_56 rfl hl (by decide) (kp_7_3 rfl) (fun ls hl => ?_)
              refine lv_aload_n hx hb dX4_letTicksPass_57 rfl (lv_at hl 0 rfl) ?_
              refine lv_dup hx hb dX4_letTicksPass_58 rfl ?_
              refine kget X hP (oS hj) g_X4_59 rfl dX4_letTicksPass_59 ?_
              refine lv_iconst (v := nI 1) hx hb dX4_letTicksPass_62 (by decide) ?_
              first
                | refine kadd hx hb dX4_letTicksPass_63 (by with_reducible rfl) (by with_reducible rfl) ?_
                | refine lv_iadd hx hb dX4_letTicksPass_63 ?_
              refine kput X hI hP hS (oS hj) g_X4_59 (fun _ => rfl) rfl (fun _ => Nat.le_of_ble_eq_true rfl) rfl rfl dX4_letTicksPass_64 (fun H locs hP hS => ?_)
              have hn6 : (gs G_37 (sB j) 4 (G_37 (sB j) 4 + nI 1)) (sB j) 6 = nI n := by rw [gs_row (by omega), RUR_6 h_37]; exact hn5
              refine lv_aload_n hx hb dX4_letTicksPass_67 rfl (lv_at hl 0 rfl) ?_
              refine lv_iload_n hx hb dX4_letTicksPass_68 rfl (lv_at hl 2 rfl) ?_
              refine kcV X hP hS (c_X4_hasReader l hI (j := j) (x := w) hj) (oS hj) v_X4_134 ⟨Nat.le_of_ble_eq_true rfl, Nat.le_of_ble_eq_true rfl, rfl, rfl⟩ rfl rfl (Nat.le_of_ble_eq_true rfl) hl.1 ⟨Nat.zero_le _, Nat.zero_le _⟩ dX4_letTicksPass_69 (fun r_69 G_69 H locs hR hP hS => ?_)
              obtain ⟨rfl, hG_69⟩ := hR
              rw [hG_69] at hP
              clear hG_69
              first
                | refine kif_eq (tgt := 88) hx hb dX4_letTicksPass_72 (by decide) (fun c_72 => ?_) (fun c_72 => ?_)
                | refine lv_if_eq (tgt := 88) hx hb dX4_letTicksPass_72 (by decide) (fun c_72 => ?_) (fun c_72 => ?_)
              · skip
                first
                  | refine kinc (q := 4) hx hb dX4_letTicksPass_88 hl rfl (by decide) (kp_7_4 rfl) (fun ls hl => ?_)
                  | refine kincG (q := 4) hx hb dX4_letTicksPass_88 hl rfl (by decide) (kp_7_4 rfl) (fun ls hl => ?_)
                refine lv_goto (tgt := 5) hx hb dX4_letTicksPass_91 (by decide) ?_
                exact ih_5 _ _ _ _ _ _ (by omega) (by omega) (hz (i + 1) _ _ (hs i dc _ G1 _ P (by omega) iv_1 hPL ⟨G_16, G_20, G_26, G_37, r_20, r_26, h_16, h_20, h_26, h_37, rfl, (if_neg (fun z => c_33 z.1)).symm⟩) (fun r hr e => absurd e (hsR_no hn4 (by rw [hn6] at c_72; exact c_72) r hr))) hP hS (lv_sub hl [0,1,2,3,4] rfl)
              · skip
                obtain ⟨r, hr, rfl⟩ := hsR_yes hn4 (by rw [hn6] at c_72; exact c_72)
                refine lv_aload_n hx hb dX4_letTicksPass_75 rfl (lv_at hl 0 rfl) ?_
                refine kget X hP (oS hj) g_X4_19 rfl dX4_letTicksPass_76 ?_
                refine lv_iload_n hx hb dX4_letTicksPass_79 rfl (lv_at hl 2 rfl) ?_
                refine kaald X hP (qR hj) (by omega) rfl dX4_letTicksPass_80 ?_
                refine kcV X hP hS (c_X3_isOpen l hI (j := j) (r := r) hj (by omega)) (oR (r := r) hj (by omega)) v_X4_83 ⟨Nat.le_of_ble_eq_true rfl, Nat.le_of_ble_eq_true rfl, rfl, rfl⟩ rfl rfl (Nat.le_of_ble_eq_true rfl) hl.1 ⟨Nat.zero_le _, Nat.zero_le _⟩ dX4_letTicksPass_81 (fun r_81 G_81 H locs hR hP hS => ?_)
                obtain ⟨rfl, hG_81⟩ := hR
                rw [hG_81] at hP
                clear hG_81
                first
                  | refine kif_ne (tgt := 88) hx hb dX4_letTicksPass_84 (by decide) (fun c_84 => ?_) (fun c_84 => ?_)
                  | refine lv_if_ne (tgt := 88) hx hb dX4_letTicksPass_84 (by decide) (fun c_84 => ?_) (fun c_84 => ?_)
                · skip
                  first
                    | refine kinc (q := 4) hx hb dX4_letTicksPass_88 hl rfl (by decide) (kp_7_4 rfl) (fun ls hl => ?_)
                    | refine kincG (q := 4) hx hb dX4_letTicksPass_88 hl rfl (by decide) (kp_7_4 rfl) (fun ls hl => ?_)
                  refine lv_goto (tgt := 5) hx hb dX4_letTicksPass_91 (by decide) ?_
                  exact ih_5 _ _ _ _ _ _ (by omega) (by omega) (hz (i + 1) _ _ (hs i dc _ G1 _ P (by omega) iv_1 hPL ⟨G_16, G_20, G_26, G_37, r_20, r_26, h_16, h_20, h_26, h_37, rfl, (if_neg (fun z => c_33 z.1)).symm⟩) (fun t ht e => by rw [show t = r from ((nI_eq (by omega) (by omega)).mp e).symm]; exact c_84)) hP hS (lv_sub hl [0,1,2,3,4] rfl)
                · skip
                  exact hret _ _ _ _ _ (Or.inr ⟨i + 1, _, r, by omega, hs i dc _ G1 _ P (by omega) iv_1 hPL ⟨G_16, G_20, G_26, G_37, r_20, r_26, h_16, h_20, h_26, h_37, rfl, (if_neg (fun z => c_33 z.1)).symm⟩, hr, rfl, c_84⟩) hP hS dX4_letTicksPass_87
            · skip
              exact absurd (by first | exact c_43 | exact Classical.not_not.mp c_43) c_33
  exact lp_5 _ 0 (nI 1) G _ _ _ (Nat.lt_succ_self _) (Nat.zero_le _) (h0) hP hS (lv_sub hl [0,1,2,3,4] rfl)
end
section

def vrC (G : Nat → Nat → Int32) (n c P : Nat) (p y : Int32) : Int32 := if y = nI 0 then G (cV 0 c) p.toNatClampNeg else if y = nI 1 then G (cM 0 c) p.toNatClampNeg else if y = nI 2 then nI (cn (fun i => if G (rN 0 i) 1 = 0 ∧ pf (G (cM 0 c)) (G (rN 0 i) 2) 0 P = p then 1 else 0) n) else if y = nI 3 then nI (cn (fun i => if (G (rN 0 i) 1 = 0 ∧ G (rN 0 i) 6 = 0) ∧ pf (G (cM 0 c)) (G (rN 0 i) 2) 0 P = p then 1 else 0) n) else shF G 0 n c P p
theorem rcR_k {G Gr : Nat → Nat → Int32} {pi : Nat → Nat} {L n k : Nat} (h : rcR G Gr pi L n k) (hL4 : L ≤ 4) (hne : ∀ t, t < 4 → pi t ≠ 0) {P : Nat → Nat} (hn : G (sB 0) 6 = nI n) (hp : ∀ c, c < 12 → G (cB 0 c) 2 = nI (P c) ∧ 1 ≤ P c ∧ P c ≤ 10) : PLS Gr 0 n P := by
  have e0 := rcR_0 h hL4 hne
  refine ⟨by rw [e0 _ (by unfold sB; omega) (by unfold sB; omega) (by unfold sB; omega)]; exact hn, fun c hc => ?_⟩
  rw [e0 _ (by unfold cB; omega) (by unfold cB; omega) (by unfold cB; omega)]
  exact hp c hc
set_option maxHeartbeats 4000000 in
set_option maxRecDepth 100000 in
theorem c_X6_commit (l : Launch) {D : va_G} {τ : Nat → ClassId} {ad : Nat → Nat} (hI : kInj ad) {G : Nat → Nat → Int32} {n k L : Nat} {mm : Nat} {x : Int32} {pi : Nat → Nat} (hL : G 8 1 = nI L) (hL4 : L ≤ 4) (hpi : ∀ t, t < 4 → G 9 t = nI (pi t) ∧ pi t < 7) (hne : ∀ t, t < 4 → pi t ≠ 0) (hn : G (sB 0) 6 = nI n) (hn4 : n ≤ 40) (hk : G (sB 0) 7 = nI k) (hk4 : k ≤ 40) (hz : ∀ r, r < n → G (rN 0 r) 8 = 0 ∨ G (rN 0 r) 8 = 1) (hy : G (sB 0) 9 = 0 ∨ G (sB 0) 9 = 1) {P : Nat → Nat} (hp : ∀ c, c < 12 → G (cB 0 c) 2 = nI (P c) ∧ 1 ≤ P c ∧ P c ≤ 9) (hm : G (sB 0) 3 = nI mm) (hkk : ∀ r, r < n → G (rN 0 r) 1 = 0 → k < 40) : kM l yX6_commit cX6_commit 3 (some .int) { frames := 4, cells := 0, slots := 0, locals := 106 } D τ ad [.ref (ad 7), .int x] G (fun v G' => rdP n x (v = -1 ∧ G' = G) (fun r => if G (rN 0 r) 1 = 0 then (if cn (cfF G 0 r) 12 ≠ 0 then v = -6 ∧ G' = G else if ¬ G (sB 0) 9 = 0 ∧ ¬ nI (cn (fun q => if skF (G (mC 0 q)) (G (rN 0 r)) then 1 else 0) k) ≤ 0 then v = -4 ∧ G' = G else if nI 40 < sm (ovF G 0 n r P) 12 then v = -3 ∧ G' = G else ∃ Gr G1 u, rcR G Gr pi L n k ∧ LNR Gr G1 0 k r mm P ∧ ruR (gs G1 (rN 0 r) 1 (nI 1)) G' 0 n (ppF Gr 0 r P) u ∧ v = G' (sB 0) 3) else v = -4 ∧ G' = G)) := by
  refine kMet (own := RX6) (by decide) rfl (Nat.le_of_ble_eq_true rfl) ?_
  intro p9 e9 s9 m9 args9 below9 meth9 c9 Q9 X hx hb hP hS hret ls hl
  have hPs := hP
  have hl : lv_has ls 3 [(0, .ref (ad 7)), (1, .int x)] := hl
  refine lv_aload_n hx hb dX6_commit_0 rfl (lv_at hl 0 rfl) ?_
  refine kget X hP oX g_X6_12 rfl dX6_commit_1 ?_
  refine lv_iload_n hx hb dX6_commit_4 rfl (lv_at hl 1 rfl) ?_
  refine kcV X hP hS (c_X4_hasReader l hI (j := 0) (by omega)) (oS (j := 0) (by omega)) v_X6_51 ⟨Nat.le_of_ble_eq_true rfl, Nat.le_of_ble_eq_true rfl, rfl, rfl⟩ rfl rfl (Nat.le_of_ble_eq_true rfl) hl.1 ⟨Nat.zero_le _, Nat.zero_le _⟩ dX6_commit_5 (fun r_5 G_5 H locs hR hP hS => ?_)
  obtain ⟨rfl, hG_5⟩ := hR
  rw [hG_5] at hP
  clear hG_5
  first
    | refine kif_ne (tgt := 13) hx hb dX6_commit_8 (by decide) (fun c_8 => ?_) (fun c_8 => ?_)
    | refine lv_if_ne (tgt := 13) hx hb dX6_commit_8 (by decide) (fun c_8 => ?_) (fun c_8 => ?_)
  · skip
    obtain ⟨r, hr, rfl⟩ := hsR_yes hn4 (by rw [hn] at c_8; exact c_8)
    refine lv_aload_n hx hb dX6_commit_13 rfl (lv_at hl 0 rfl) ?_
    refine kget X hP oX g_X6_12 rfl dX6_commit_14 ?_
    refine kget X hP (oS (j := 0) (by omega)) g_X6_55 rfl dX6_commit_17 ?_
    refine lv_iload_n hx hb dX6_commit_20 rfl (lv_at hl 1 rfl) ?_
    refine kaald X hP (qR (j := 0) (by omega)) (by omega) rfl dX6_commit_21 ?_
    refine kast hx hb dX6_commit_22 rfl hl (by decide) (kp_2_2 rfl) (fun ls hl => ?_)
    refine lv_aload_n hx hb dX6_commit_23 rfl (lv_at hl 2 rfl) ?_
    refine kcV X hP hS (c_X3_isOpen l hI (j := 0) (by omega) (by omega)) (oR (j := 0) (r := r) (by omega) (by omega)) v_X6_59 ⟨Nat.le_of_ble_eq_true rfl, Nat.le_of_ble_eq_true rfl, rfl, rfl⟩ rfl rfl (Nat.le_of_ble_eq_true rfl) hl.1 ⟨Nat.zero_le _, Nat.zero_le _⟩ dX6_commit_24 (fun r_24 G_24 H locs hR hP hS => ?_)
    obtain ⟨rfl, hG_24⟩ := hR
    rw [hG_24] at hP
    clear hG_24
    first
      | refine kif_ne (tgt := 33) hx hb dX6_commit_27 (by decide) (fun c_27 => ?_) (fun c_27 => ?_)
      | refine lv_if_ne (tgt := 33) hx hb dX6_commit_27 (by decide) (fun c_27 => ?_) (fun c_27 => ?_)
    · skip
      refine lv_aload_n hx hb dX6_commit_33 rfl (lv_at hl 0 rfl) ?_
      refine kget X hP oX g_X6_12 rfl dX6_commit_34 ?_
      refine lv_aload_n hx hb dX6_commit_37 rfl (lv_at hl 2 rfl) ?_
      refine kcV X hP hS (c_X4_hasConflict l hI (j := 0) (r := r) (by omega) (by omega)) (oS (j := 0) (by omega)) v_X6_130 ⟨Nat.le_of_ble_eq_true rfl, Nat.le_of_ble_eq_true rfl, rfl, rfl⟩ rfl rfl (Nat.le_of_ble_eq_true rfl) hl.1 ⟨Nat.zero_le _, Nat.zero_le _⟩ dX6_commit_38 (fun r_38 G_38 H locs hR hP hS => ?_)
      obtain ⟨rfl, hG_38⟩ := hR
      rw [hG_38] at hP
      clear hG_38
      first
        | refine kif_eq (tgt := 47) hx hb dX6_commit_41 (by decide) (fun c_41 => ?_) (fun c_41 => ?_)
        | refine lv_if_eq (tgt := 47) hx hb dX6_commit_41 (by decide) (fun c_41 => ?_) (fun c_41 => ?_)
      · skip
        refine lv_aload_n hx hb dX6_commit_47 rfl (lv_at hl 0 rfl) ?_
        refine kget X hP oX g_X6_12 rfl dX6_commit_48 ?_
        refine kget X hP (oS (j := 0) (by omega)) g_X6_89 rfl dX6_commit_51 ?_
        first
          | refine kif_eq (tgt := 71) hx hb dX6_commit_54 (by decide) (fun c_54 => ?_) (fun c_54 => ?_)
          | refine lv_if_eq (tgt := 71) hx hb dX6_commit_54 (by decide) (fun c_54 => ?_) (fun c_54 => ?_)
        · skip
          refine lv_aload_n hx hb dX6_commit_71 rfl (lv_at hl 0 rfl) ?_
          refine kget X hP oX g_X6_12 rfl dX6_commit_72 ?_
          refine lv_iload_n hx hb dX6_commit_75 rfl (lv_at hl 1 rfl) ?_
          refine kcV X hP hS (c_X4_oldVersionsWithout l hI (j := 0) (n := n) (r := r) (P := P) (by omega) hn hn4 hr (fun c hc => ⟨(hp c hc).1, by have := (hp c hc).2.2; omega⟩)) (oS (j := 0) (by omega)) v_X6_137 ⟨Nat.le_of_ble_eq_true rfl, Nat.le_of_ble_eq_true rfl, rfl, rfl⟩ rfl rfl (Nat.le_of_ble_eq_true rfl) hl.1 ⟨Nat.zero_le _, Nat.zero_le _⟩ dX6_commit_76 (fun r_76 G_76 H locs hR hP hS => ?_)
          obtain ⟨rfl, hG_76⟩ := hR
          rw [hG_76] at hP
          clear hG_76
          refine lv_bipush (v := nI 40) hx hb dX6_commit_79 (by decide) ?_
          first
            | refine kic_le (tgt := 87) hx hb dX6_commit_81 (by decide) (by with_reducible rfl) (by with_reducible rfl) (by omega) (by omega) (fun c_81 => ?_) (fun c_81 => ?_)
            | refine lv_icmp_le (tgt := 87) hx hb dX6_commit_81 (by decide) (fun c_81 => ?_) (fun c_81 => ?_)
          · skip
            refine lv_aload_n hx hb dX6_commit_87 rfl (lv_at hl 0 rfl) ?_
            refine kget X hP oX g_X6_25 rfl dX6_commit_88 ?_
            refine lv_aload_n hx hb dX6_commit_91 rfl (lv_at hl 0 rfl) ?_
            refine kget X hP oX g_X6_12 rfl dX6_commit_92 ?_
            refine kcVv X hP hS (c_X2_record l hI (j := 0) (n := n) (k := k) (L := L) (pi := pi) (by omega) hL hL4 hpi hne hn hn4 hk hk4 hz hy) oH v_X6_44 ⟨Nat.le_of_ble_eq_true rfl, Nat.le_of_ble_eq_true rfl, rfl, rfl⟩ rfl rfl (Nat.le_of_ble_eq_true rfl) hl.1 ⟨Nat.zero_le _, Nat.zero_le _⟩ dX6_commit_95 (fun G_95 H locs hR hP hS => ?_)
            have h_95 : rcR G G_95 pi L n k := hR
            have e0 := rcR_0 h_95 hL4 hne
            have er : G_95 (rN 0 r) = G (rN 0 r) := e0 _ (by unfold rN; omega) (by unfold rN; omega) (by unfold rN; omega)
            refine lv_aload_n hx hb dX6_commit_98 rfl (lv_at hl 0 rfl) ?_
            refine kget X hP oX g_X6_12 rfl dX6_commit_99 ?_
            refine lv_iload_n hx hb dX6_commit_102 rfl (lv_at hl 1 rfl) ?_
            refine kcVv X hP hS (c_X4_land l hI (j := 0) (n := n) (k := k) (r := r) (mm := mm) (P := P) (by omega) (by rw [e0 (sB 0) (by unfold sB; omega) (by unfold sB; omega) (by unfold sB; omega)]; exact hn) hn4 hr (by rw [e0 (sB 0) (by unfold sB; omega) (by unfold sB; omega) (by unfold sB; omega)]; exact hk) (hkk r hr c_27) (by rw [e0 (sB 0) (by unfold sB; omega) (by unfold sB; omega) (by unfold sB; omega)]; exact hm) (fun c hc => by rw [e0 (cB 0 c) (by unfold cB; omega) (by unfold cB; omega) (by unfold cB; omega)]; exact hp c hc)) (oS (j := 0) (by omega)) v_X6_140 ⟨Nat.le_of_ble_eq_true rfl, Nat.le_of_ble_eq_true rfl, rfl, rfl⟩ rfl rfl (Nat.le_of_ble_eq_true rfl) hl.1 ⟨Nat.zero_le _, Nat.zero_le _⟩ dX6_commit_103 (fun G_103 H locs hR hP hS => ?_)
            obtain ⟨G1, u, h_1, h_2⟩ := hR
            refine lv_aload_n hx hb dX6_commit_106 rfl (lv_at hl 0 rfl) ?_
            refine kget X hP oX g_X6_12 rfl dX6_commit_107 ?_
            refine kget X hP (oS (j := 0) (by omega)) g_X6_144 rfl dX6_commit_110 ?_
            exact hret _ _ _ _ _ _ (rdP_h hr hn4 (by rw [if_pos c_27, if_neg c_41, if_neg (fun z => z.1 c_54), if_neg (Int32.not_lt.mpr c_81)]; exact ⟨_, G1, u, h_95, h_1, h_2, rfl⟩)) hP hS dX6_commit_113
          · skip
            refine lv_bipush (v := (-3)) hx hb dX6_commit_84 (by decide) ?_
            exact hret _ _ _ _ _ _ (rdP_h hr hn4 (by rw [if_pos c_27, if_neg c_41, if_neg (fun z => z.1 c_54), if_pos (Int32.not_le.mp c_81)]; exact ⟨rfl, rfl⟩)) hP hS dX6_commit_86
        · skip
          refine lv_aload_n hx hb dX6_commit_57 rfl (lv_at hl 0 rfl) ?_
          refine kget X hP oX g_X6_12 rfl dX6_commit_58 ?_
          refine lv_aload_n hx hb dX6_commit_61 rfl (lv_at hl 2 rfl) ?_
          refine kcV X hP hS (c_X4_skewsOf l hI (j := 0) (k := k) (r := r) (by omega) hk hk4 (by omega)) (oS (j := 0) (by omega)) v_X6_134 ⟨Nat.le_of_ble_eq_true rfl, Nat.le_of_ble_eq_true rfl, rfl, rfl⟩ rfl rfl (Nat.le_of_ble_eq_true rfl) hl.1 ⟨Nat.zero_le _, Nat.zero_le _⟩ dX6_commit_62 (fun r_62 G_62 H locs hR hP hS => ?_)
          obtain ⟨rfl, hG_62⟩ := hR
          rw [hG_62] at hP
          clear hG_62
          refine lv_if_le (tgt := 71) hx hb dX6_commit_65 (by decide) (fun c_65 => ?_) (fun c_65 => ?_)
          · skip
            refine lv_aload_n hx hb dX6_commit_71 rfl (lv_at hl 0 rfl) ?_
            refine kget X hP oX g_X6_12 rfl dX6_commit_72 ?_
            refine lv_iload_n hx hb dX6_commit_75 rfl (lv_at hl 1 rfl) ?_
            refine kcV X hP hS (c_X4_oldVersionsWithout l hI (j := 0) (n := n) (r := r) (P := P) (by omega) hn hn4 hr (fun c hc => ⟨(hp c hc).1, by have := (hp c hc).2.2; omega⟩)) (oS (j := 0) (by omega)) v_X6_137 ⟨Nat.le_of_ble_eq_true rfl, Nat.le_of_ble_eq_true rfl, rfl, rfl⟩ rfl rfl (Nat.le_of_ble_eq_true rfl) hl.1 ⟨Nat.zero_le _, Nat.zero_le _⟩ dX6_commit_76 (fun r_76 G_76 H locs hR hP hS => ?_)
            obtain ⟨rfl, hG_76⟩ := hR
            rw [hG_76] at hP
            clear hG_76
            refine lv_bipush (v := nI 40) hx hb dX6_commit_79 (by decide) ?_
            first
              | refine kic_le (tgt := 87) hx hb dX6_commit_81 (by decide) (by with_reducible rfl) (by with_reducible rfl) (by omega) (by omega) (fun c_81 => ?_) (fun c_81 => ?_)
              | refine lv_icmp_le (tgt := 87) hx hb dX6_commit_81 (by decide) (fun c_81 => ?_) (fun c_81 => ?_)
            · skip
              refine lv_aload_n hx hb dX6_commit_87 rfl (lv_at hl 0 rfl) ?_
              refine kget X hP oX g_X6_25 rfl dX6_commit_88 ?_
              refine lv_aload_n hx hb dX6_commit_91 rfl (lv_at hl 0 rfl) ?_
              refine kget X hP oX g_X6_12 rfl dX6_commit_92 ?_
              refine kcVv X hP hS (c_X2_record l hI (j := 0) (n := n) (k := k) (L := L) (pi := pi) (by omega) hL hL4 hpi hne hn hn4 hk hk4 hz hy) oH v_X6_44 ⟨Nat.le_of_ble_eq_true rfl, Nat.le_of_ble_eq_true rfl, rfl, rfl⟩ rfl rfl (Nat.le_of_ble_eq_true rfl) hl.1 ⟨Nat.zero_le _, Nat.zero_le _⟩ dX6_commit_95 (fun G_95 H locs hR hP hS => ?_)
              have h_95 : rcR G G_95 pi L n k := hR
              have e0 := rcR_0 h_95 hL4 hne
              have er : G_95 (rN 0 r) = G (rN 0 r) := e0 _ (by unfold rN; omega) (by unfold rN; omega) (by unfold rN; omega)
              refine lv_aload_n hx hb dX6_commit_98 rfl (lv_at hl 0 rfl) ?_
              refine kget X hP oX g_X6_12 rfl dX6_commit_99 ?_
              refine lv_iload_n hx hb dX6_commit_102 rfl (lv_at hl 1 rfl) ?_
              refine kcVv X hP hS (c_X4_land l hI (j := 0) (n := n) (k := k) (r := r) (mm := mm) (P := P) (by omega) (by rw [e0 (sB 0) (by unfold sB; omega) (by unfold sB; omega) (by unfold sB; omega)]; exact hn) hn4 hr (by rw [e0 (sB 0) (by unfold sB; omega) (by unfold sB; omega) (by unfold sB; omega)]; exact hk) (hkk r hr c_27) (by rw [e0 (sB 0) (by unfold sB; omega) (by unfold sB; omega) (by unfold sB; omega)]; exact hm) (fun c hc => by rw [e0 (cB 0 c) (by unfold cB; omega) (by unfold cB; omega) (by unfold cB; omega)]; exact hp c hc)) (oS (j := 0) (by omega)) v_X6_140 ⟨Nat.le_of_ble_eq_true rfl, Nat.le_of_ble_eq_true rfl, rfl, rfl⟩ rfl rfl (Nat.le_of_ble_eq_true rfl) hl.1 ⟨Nat.zero_le _, Nat.zero_le _⟩ dX6_commit_103 (fun G_103 H locs hR hP hS => ?_)
              obtain ⟨G1, u, h_1, h_2⟩ := hR
              refine lv_aload_n hx hb dX6_commit_106 rfl (lv_at hl 0 rfl) ?_
              refine kget X hP oX g_X6_12 rfl dX6_commit_107 ?_
              refine kget X hP (oS (j := 0) (by omega)) g_X6_144 rfl dX6_commit_110 ?_
              exact hret _ _ _ _ _ _ (rdP_h hr hn4 (by rw [if_pos c_27, if_neg c_41, if_neg (fun z => z.2 c_65), if_neg (Int32.not_lt.mpr c_81)]; exact ⟨_, G1, u, h_95, h_1, h_2, rfl⟩)) hP hS dX6_commit_113
            · skip
              refine lv_bipush (v := (-3)) hx hb dX6_commit_84 (by decide) ?_
              exact hret _ _ _ _ _ _ (rdP_h hr hn4 (by rw [if_pos c_27, if_neg c_41, if_neg (fun z => z.2 c_65), if_pos (Int32.not_le.mp c_81)]; exact ⟨rfl, rfl⟩)) hP hS dX6_commit_86
          · skip
            refine lv_bipush (v := (-4)) hx hb dX6_commit_68 (by decide) ?_
            exact hret _ _ _ _ _ _ (rdP_h hr hn4 (by rw [if_pos c_27, if_neg c_41, if_pos ⟨c_54, c_65⟩]; exact ⟨rfl, rfl⟩)) hP hS dX6_commit_70
      · skip
        refine lv_bipush (v := (-6)) hx hb dX6_commit_44 (by decide) ?_
        exact hret _ _ _ _ _ _ (rdP_h hr hn4 (by rw [if_pos c_27, if_pos c_41]; exact ⟨rfl, rfl⟩)) hP hS dX6_commit_46
    · skip
      refine lv_bipush (v := (-4)) hx hb dX6_commit_30 (by decide) ?_
      exact hret _ _ _ _ _ _ (rdP_h hr hn4 (by rw [if_neg c_27]; exact ⟨rfl, rfl⟩)) hP hS dX6_commit_32
  · skip
    have hms := hsR_no hn4 (by rw [hn] at c_8; exact c_8)
    refine lv_iconst (v := (-1)) hx hb dX6_commit_11 (by decide) ?_
    exact hret _ _ _ _ _ _ (rdP_m hms ⟨rfl, rfl⟩) hP hS dX6_commit_12

set_option maxHeartbeats 4000000 in
set_option maxRecDepth 100000 in
theorem c_X6_version (l : Launch) {D : va_G} {τ : Nat → ClassId} {ad : Nat → Nat} (hI : kInj ad) {G : Nat → Nat → Int32} {n : Nat} {P : Nat → Nat} {x p y : Int32} (hn : G (sB 0) 6 = nI n) (hn4 : n ≤ 40)  (hp : ∀ c, c < 12 → G (cB 0 c) 2 = nI (P c) ∧ 1 ≤ P c ∧ P c ≤ 10) : kM l yX6_version cX6_version 5 (some .int) { frames := 3, cells := 0, slots := 0, locals := 70 } D τ ad [.ref (ad 7), .int x, .int p, .int y] G (fun v G' => G' = G ∧ rdP 12 x (v = -1) (fun c => if ¬ p < 0 ∧ (nI 0 ≤ y ∧ y ≤ nI 4) then (if nI (P c) ≤ p then v = -5 else v = vrC G n c (P c) p y) else v = -2)) := by
  refine kMet (own := RX6) (by decide) rfl (Nat.le_of_ble_eq_true rfl) ?_
  intro p9 e9 s9 m9 args9 below9 meth9 c9 Q9 X hx hb hP hS hret ls hl
  have hPs := hP
  have hl : lv_has ls 5 [(0, .ref (ad 7)), (1, .int x), (2, .int p), (3, .int y)] := hl
  refine lv_iload_n hx hb dX6_version_0 rfl (lv_at hl 1 rfl) ?_
  refine kcS X hP hS (c_X6_isCell l hI) v_X6_99 ⟨Nat.le_of_ble_eq_true rfl, Nat.le_of_ble_eq_true rfl, rfl, rfl⟩ rfl rfl (Nat.le_of_ble_eq_true rfl) hl.1 ⟨Nat.zero_le _, Nat.zero_le _⟩ dX6_version_1 (fun r_1 G_1 H locs hR hP hS => ?_)
  obtain ⟨rfl, hG_1⟩ := hR
  rw [hG_1] at hP
  clear hG_1
  first
    | refine kif_ne (tgt := 9) hx hb dX6_version_4 (by decide) (fun c_4 => ?_) (fun c_4 => ?_)
    | refine lv_if_ne (tgt := 9) hx hb dX6_version_4 (by decide) (fun c_4 => ?_) (fun c_4 => ?_)
  · skip
    obtain ⟨c, hc, rfl⟩ := hsR_yes (n := 12) (by omega) c_4
    refine lv_iload_n hx hb dX6_version_9 rfl (lv_at hl 2 rfl) ?_
    refine lv_if_lt (tgt := 22) hx hb dX6_version_10 (by decide) (fun c_10 => ?_) (fun c_10 => ?_)
    · skip
      refine lv_bipush (v := (-2)) hx hb dX6_version_22 (by decide) ?_
      exact hret _ _ _ _ _ _ (⟨rfl, rdP_h hc (by omega) (by rw [if_neg (fun z => absurd c_10 z.1)])⟩) hP hS dX6_version_24
    · skip
      refine lv_iload_n hx hb dX6_version_13 rfl (lv_at hl 3 rfl) ?_
      refine lv_if_lt (tgt := 22) hx hb dX6_version_14 (by decide) (fun c_14 => ?_) (fun c_14 => ?_)
      · skip
        refine lv_bipush (v := (-2)) hx hb dX6_version_22 (by decide) ?_
        exact hret _ _ _ _ _ _ (⟨rfl, rdP_h hc (by omega) (by rw [if_neg (fun z => absurd c_14 (Int32.not_lt.mpr z.2.1))])⟩) hP hS dX6_version_24
      · skip
        refine lv_iload_n hx hb dX6_version_17 rfl (lv_at hl 3 rfl) ?_
        refine lv_iconst (v := nI 4) hx hb dX6_version_18 (by decide) ?_
        first
          | refine kic_le (tgt := 25) hx hb dX6_version_19 (by decide) (by with_reducible rfl) (by with_reducible rfl) (by omega) (by omega) (fun c_19 => ?_) (fun c_19 => ?_)
          | refine lv_icmp_le (tgt := 25) hx hb dX6_version_19 (by decide) (fun c_19 => ?_) (fun c_19 => ?_)
        · skip
          refine lv_aload_n hx hb dX6_version_25 rfl (lv_at hl 0 rfl) ?_
          refine kget X hP oX g_X6_12 rfl dX6_version_26 ?_
          refine kget X hP (oS (j := 0) (by omega)) g_X6_112 rfl dX6_version_29 ?_
          refine lv_iload_n hx hb dX6_version_32 rfl (lv_at hl 1 rfl) ?_
          refine kaald X hP (qC (j := 0) (by omega)) (by omega) rfl dX6_version_33 ?_
          refine kastW hx hb dX6_version_34 hl (by decide) (kp_4_4 rfl) (fun ls hl => ?_)
          refine lv_iload_n hx hb dX6_version_36 rfl (lv_at hl 2 rfl) ?_
          refine lv_aload hx hb dX6_version_37 (lv_at hl 4 rfl) ?_
          refine kget X hP (oC (j := 0) (c := c) (by omega) hc) g_X6_179 (congrArg (fun z => some (Value.int z)) (hp c hc).1) dX6_version_39 ?_
          first
            | refine kic_lt (tgt := 48) hx hb dX6_version_42 (by decide) (by with_reducible rfl) (by with_reducible rfl) (by omega) (by omega) (fun c_42 => ?_) (fun c_42 => ?_)
            | refine lv_icmp_lt (tgt := 48) hx hb dX6_version_42 (by decide) (fun c_42 => ?_) (fun c_42 => ?_)
          · skip
            have hp0 : ¬ p < 0 := c_10
            have hy0 : nI 0 ≤ y ∧ y ≤ nI 4 := ⟨Int32.not_lt.mp c_14, c_19⟩
            obtain ⟨q, hq32, rfl⟩ := nI_of c_10
            have hq : q < P c := (nI_ltI hq32 (by have := (hp c hc).2.2; omega)).mp c_42
            refine lv_iload_n hx hb dX6_version_48 rfl (lv_at hl 3 rfl) ?_
            by_cases q_0 : y = nI 0
            · skip
              subst q_0
              refine lv_tableIn (off := 31) (tgt := 80) hx hb dX6_version_49 (by decide) (by decide) rfl (by decide) ?_
              refine lv_aload hx hb dX6_version_80 (lv_at hl 4 rfl) ?_
              refine kget X hP (oC (j := 0) (c := c) (by omega) hc) g_X6_175 rfl dX6_version_82 ?_
              refine lv_iload_n hx hb dX6_version_85 rfl (lv_at hl 2 rfl) ?_
              refine kiald X hP (aV (j := 0) (c := c) (by omega) hc) (by have := (hp c hc).2.2; omega) dX6_version_86 ?_
              exact hret _ _ _ _ _ _ (⟨rfl, rdP_h hc (by omega) (by rw [if_pos ⟨hp0, hy0⟩, if_neg (nI_ge hq (by have := (hp c hc).2.2; omega)), vrC, if_pos (rfl : nI 0 = nI 0), nI_clamp (by have := (hp c hc).2.2; omega)])⟩) hP hS dX6_version_87
            by_cases q_1 : y = nI 1
            · skip
              subst q_1
              refine lv_tableIn (off := 39) (tgt := 88) hx hb dX6_version_49 (by decide) (by decide) rfl (by decide) ?_
              refine lv_aload hx hb dX6_version_88 (lv_at hl 4 rfl) ?_
              refine kget X hP (oC (j := 0) (c := c) (by omega) hc) g_X6_176 rfl dX6_version_90 ?_
              refine lv_iload_n hx hb dX6_version_93 rfl (lv_at hl 2 rfl) ?_
              refine kiald X hP (aM (j := 0) (c := c) (by omega) hc) (by have := (hp c hc).2.2; omega) dX6_version_94 ?_
              exact hret _ _ _ _ _ _ (⟨rfl, rdP_h hc (by omega) (by rw [if_pos ⟨hp0, hy0⟩, if_neg (nI_ge hq (by have := (hp c hc).2.2; omega)), vrC, if_neg q_0, if_pos (rfl : nI 1 = nI 1), nI_clamp (by have := (hp c hc).2.2; omega)])⟩) hP hS dX6_version_95
            by_cases q_2 : y = nI 2
            · skip
              subst q_2
              refine lv_tableIn (off := 47) (tgt := 96) hx hb dX6_version_49 (by decide) (by decide) rfl (by decide) ?_
              refine lv_aload_n hx hb dX6_version_96 rfl (lv_at hl 0 rfl) ?_
              refine kget X hP oX g_X6_12 rfl dX6_version_97 ?_
              refine lv_aload hx hb dX6_version_100 (lv_at hl 4 rfl) ?_
              refine lv_iload_n hx hb dX6_version_102 rfl (lv_at hl 2 rfl) ?_
              refine kcV X hP hS (c_X4_seersOf l hI (j := 0) (n := n) (c := c) (P := P c) (by omega) hn hn4 hc (hp c hc).1 (hp c hc).2.2) (oS (j := 0) (by omega)) v_X6_182 ⟨Nat.le_of_ble_eq_true rfl, Nat.le_of_ble_eq_true rfl, rfl, rfl⟩ rfl rfl (Nat.le_of_ble_eq_true rfl) hl.1 ⟨Nat.zero_le _, Nat.zero_le _⟩ dX6_version_103 (fun r_103 G_103 H locs hR hP hS => ?_)
              obtain ⟨rfl, hG_103⟩ := hR
              rw [hG_103] at hP
              clear hG_103
              exact hret _ _ _ _ _ _ (⟨rfl, rdP_h hc (by omega) (by rw [if_pos ⟨hp0, hy0⟩, if_neg (nI_ge hq (by have := (hp c hc).2.2; omega)), vrC, if_neg q_0, if_neg q_1, if_pos (rfl : nI 2 = nI 2)])⟩) hP hS dX6_version_106
            by_cases q_3 : y = nI 3
            · skip
              subst q_3
              refine lv_tableIn (off := 58) (tgt := 107) hx hb dX6_version_49 (by decide) (by decide) rfl (by decide) ?_
              refine lv_aload_n hx hb dX6_version_107 rfl (lv_at hl 0 rfl) ?_
              refine kget X hP oX g_X6_12 rfl dX6_version_108 ?_
              refine lv_aload hx hb dX6_version_111 (lv_at hl 4 rfl) ?_
              refine lv_iload_n hx hb dX6_version_113 rfl (lv_at hl 2 rfl) ?_
              refine kcV X hP hS (c_X4_payersOf l hI (j := 0) (n := n) (c := c) (P := P c) (by omega) hn hn4 hc (hp c hc).1 (hp c hc).2.2) (oS (j := 0) (by omega)) v_X6_189 ⟨Nat.le_of_ble_eq_true rfl, Nat.le_of_ble_eq_true rfl, rfl, rfl⟩ rfl rfl (Nat.le_of_ble_eq_true rfl) hl.1 ⟨Nat.zero_le _, Nat.zero_le _⟩ dX6_version_114 (fun r_114 G_114 H locs hR hP hS => ?_)
              obtain ⟨rfl, hG_114⟩ := hR
              rw [hG_114] at hP
              clear hG_114
              exact hret _ _ _ _ _ _ (⟨rfl, rdP_h hc (by omega) (by rw [if_pos ⟨hp0, hy0⟩, if_neg (nI_ge hq (by have := (hp c hc).2.2; omega)), vrC, if_neg q_0, if_neg q_1, if_neg q_2, if_pos (rfl : nI 3 = nI 3)])⟩) hP hS dX6_version_117
            refine lv_tableOut (tgt := 118) hx hb dX6_version_49 (tb_out 3 (by decide) (fun i hi => by
                rcases (show i = 0 ∨ i = 1 ∨ i = 2 ∨ i = 3 by omega) with rfl | rfl | rfl | rfl <;> assumption)) (by decide) ?_
            refine lv_aload_n hx hb dX6_version_118 rfl (lv_at hl 0 rfl) ?_
            refine kget X hP oX g_X6_12 rfl dX6_version_119 ?_
            refine lv_aload hx hb dX6_version_122 (lv_at hl 4 rfl) ?_
            refine lv_iload_n hx hb dX6_version_124 rfl (lv_at hl 2 rfl) ?_
            refine kcV X hP hS (c_X4_shareOf l hI (j := 0) (n := n) (c := c) (P := P c) (by omega) hn hn4 hc (hp c hc).1 (hp c hc).2.2) (oS (j := 0) (by omega)) v_X6_192 ⟨Nat.le_of_ble_eq_true rfl, Nat.le_of_ble_eq_true rfl, rfl, rfl⟩ rfl rfl (Nat.le_of_ble_eq_true rfl) hl.1 ⟨Nat.zero_le _, Nat.zero_le _⟩ dX6_version_125 (fun r_125 G_125 H locs hR hP hS => ?_)
            obtain ⟨rfl, hG_125⟩ := hR
            rw [hG_125] at hP
            clear hG_125
            exact hret _ _ _ _ _ _ (⟨rfl, rdP_h hc (by omega) (by rw [if_pos ⟨hp0, hy0⟩, if_neg (nI_ge hq (by have := (hp c hc).2.2; omega)), vrC, if_neg q_0, if_neg q_1, if_neg q_2, if_neg q_3])⟩) hP hS dX6_version_128
          · skip
            refine lv_bipush (v := (-5)) hx hb dX6_version_45 (by decide) ?_
            exact hret _ _ _ _ _ _ (⟨rfl, rdP_h hc (by omega) (by rw [if_pos ⟨c_10, Int32.not_lt.mp c_14, c_19⟩, if_pos (Int32.not_lt.mp c_42)])⟩) hP hS dX6_version_47
        · skip
          refine lv_bipush (v := (-2)) hx hb dX6_version_22 (by decide) ?_
          exact hret _ _ _ _ _ _ (⟨rfl, rdP_h hc (by omega) (by rw [if_neg (fun z => absurd z.2.2 c_19)])⟩) hP hS dX6_version_24
  · skip
    have hmc := hsR_no (n := 12) (by omega) c_4
    refine lv_iconst (v := (-1)) hx hb dX6_version_7 (by decide) ?_
    exact hret _ _ _ _ _ _ (⟨rfl, rdP_m hmc rfl⟩) hP hS dX6_version_8

set_option maxHeartbeats 4000000 in
set_option maxRecDepth 100000 in
theorem c_X6_tick (l : Launch) {D : va_G} {τ : Nat → ClassId} {ad : Nat → Nat} (hI : kInj ad) {G : Nat → Nat → Int32} {n k L : Nat} {y : Int32} {pi : Nat → Nat} (hL : G 8 1 = nI L) (hL4 : L ≤ 4) (hpi : ∀ t, t < 4 → G 9 t = nI (pi t) ∧ pi t < 7) (hne : ∀ t, t < 4 → pi t ≠ 0) (hn : G (sB 0) 6 = nI n) (hn4 : n ≤ 40) (hk : G (sB 0) 7 = nI k) (hk4 : k ≤ 40) (hz : ∀ r, r < n → G (rN 0 r) 8 = 0 ∨ G (rN 0 r) 8 = 1) (hy : G (sB 0) 9 = 0 ∨ G (sB 0) 9 = 1) (Z Y : (Nat → Nat → Int32) → Nat → Int32 → (Nat → Nat → Int32) → Prop) (hw : ∀ Gr i dc G1, Z Gr i dc G1 → ∃ P, PLS G1 0 n P) (hs : ∀ Gr i dc dc' G1 G2 P, Z Gr i dc G1 → PLS G1 0 n P → TKS G1 G2 0 n P dc dc' → Y Gr (i + 1) dc' G2) (hzz : ∀ Gr i dc G1, Y Gr i dc G1 → Z Gr i dc G1) (h0 : ∀ Gr, rcR G Gr pi L n k → Z Gr 0 (nI 1) Gr) : kM l yX6_tick cX6_tick 3 (some .int) { frames := 6, cells := 0, slots := 0, locals := 140 } D τ ad [.ref (ad 7), .int y] G (fun v G' => if nI 1 ≤ y ∧ y ≤ nI 60 then ∃ Gr dc, rcR G Gr pi L n k ∧ Z Gr y.toNatClampNeg dc G' ∧ v = nI (cn (fun i => if G' (rN 0 i) 1 = nI 3 then 1 else 0) n) - nI (cn (fun i => if Gr (rN 0 i) 1 = nI 3 then 1 else 0) n) else v = -2 ∧ G' = G) := by
  refine kMet (own := RX6) (by decide) rfl (Nat.le_of_ble_eq_true rfl) ?_
  intro p9 e9 s9 m9 args9 below9 meth9 c9 Q9 X hx hb hP hS hret ls hl
  have hPs := hP
  have hl : lv_has ls 3 [(0, .ref (ad 7)), (1, .int y)] := hl
  refine lv_iload_n hx hb dX6_tick_0 rfl (lv_at hl 1 rfl) ?_
  refine lv_iconst (v := nI 1) hx hb dX6_tick_1 (by decide) ?_
  first
    | refine kic_lt (tgt := 11) hx hb dX6_tick_2 (by decide) (by with_reducible rfl) (by with_reducible rfl) (by omega) (by omega) (fun c_2 => ?_) (fun c_2 => ?_)
    | refine lv_icmp_lt (tgt := 11) hx hb dX6_tick_2 (by decide) (fun c_2 => ?_) (fun c_2 => ?_)
  · skip
    refine lv_bipush (v := (-2)) hx hb dX6_tick_11 (by decide) ?_
    exact hret _ _ _ _ _ _ (by rw [if_neg (fun z => Int32.not_lt.mpr z.1 c_2)]; exact ⟨rfl, rfl⟩) hP hS dX6_tick_13
  · skip
    refine lv_iload_n hx hb dX6_tick_5 rfl (lv_at hl 1 rfl) ?_
    refine lv_bipush (v := nI 60) hx hb dX6_tick_6 (by decide) ?_
    first
      | refine kic_le (tgt := 14) hx hb dX6_tick_8 (by decide) (by with_reducible rfl) (by with_reducible rfl) (by omega) (by omega) (fun c_8 => ?_) (fun c_8 => ?_)
      | refine lv_icmp_le (tgt := 14) hx hb dX6_tick_8 (by decide) (fun c_8 => ?_) (fun c_8 => ?_)
    · skip
      obtain ⟨K, hK32, rfl⟩ := nI_of (x := y) (fun z => Int32.not_le.mpr (Int32.lt_trans z (by decide)) (Int32.not_lt.mp c_2))
      have hK6 : K ≤ 60 := (nI_leI hK32 (by omega)).mp c_8
      refine lv_aload_n hx hb dX6_tick_14 rfl (lv_at hl 0 rfl) ?_
      refine kget X hP oX g_X6_25 rfl dX6_tick_15 ?_
      refine lv_aload_n hx hb dX6_tick_18 rfl (lv_at hl 0 rfl) ?_
      refine kget X hP oX g_X6_12 rfl dX6_tick_19 ?_
      refine kcVv X hP hS (c_X2_record l hI (j := 0) (n := n) (k := k) (L := L) (pi := pi) (by omega) hL hL4 hpi hne hn hn4 hk hk4 hz hy) oH v_X6_44 ⟨Nat.le_of_ble_eq_true rfl, Nat.le_of_ble_eq_true rfl, rfl, rfl⟩ rfl rfl (Nat.le_of_ble_eq_true rfl) hl.1 ⟨Nat.zero_le _, Nat.zero_le _⟩ dX6_tick_22 (fun G_22 H locs hR hP hS => ?_)
      have h_22 : rcR G G_22 pi L n k := hR
      have e0 := rcR_0 h_22 hL4 hne
      refine lv_aload_n hx hb dX6_tick_25 rfl (lv_at hl 0 rfl) ?_
      refine kget X hP oX g_X6_12 rfl dX6_tick_26 ?_
      refine lv_iconst (v := nI 3) hx hb dX6_tick_29 (by decide) ?_
      refine kcV X hP hS (c_X4_readersIn l hI (j := 0) (n := n) (by omega) (by rw [e0 (sB 0) (by unfold sB; omega) (by unfold sB; omega) (by unfold sB; omega)]; exact hn) hn4) (oS (j := 0) (by omega)) v_X6_40 ⟨Nat.le_of_ble_eq_true rfl, Nat.le_of_ble_eq_true rfl, rfl, rfl⟩ rfl rfl (Nat.le_of_ble_eq_true rfl) hl.1 ⟨Nat.zero_le _, Nat.zero_le _⟩ dX6_tick_30 (fun r_30 G_30 H locs hR hP hS => ?_)
      obtain ⟨rfl, hG_30⟩ := hR
      rw [hG_30] at hP
      clear hG_30
      refine kist hx hb dX6_tick_33 rfl hl (by decide) (kp_2_2 rfl) (fun ls hl => ?_)
      refine lv_aload_n hx hb dX6_tick_34 rfl (lv_at hl 0 rfl) ?_
      refine kget X hP oX g_X6_12 rfl dX6_tick_35 ?_
      refine lv_iload_n hx hb dX6_tick_38 rfl (lv_at hl 1 rfl) ?_
      refine lv_iconst (v := (-1)) hx hb dX6_tick_39 (by decide) ?_
      refine kcVv X hP hS (c_X4_letTicksPass l hI (j := 0) (n := n) (K := K) (w := -1) (by omega) hn4 (by omega) (Z G_22) (Y G_22) (hw G_22) (fun i dc dc' G1 G2 P _ z1 z2 z3 => hs G_22 i dc dc' G1 G2 P z1 z2 z3) (fun i dc G1 z _ => hzz G_22 i dc G1 z) (h0 G_22 h_22)) (oS (j := 0) (by omega)) v_X6_95 ⟨Nat.le_of_ble_eq_true rfl, Nat.le_of_ble_eq_true rfl, rfl, rfl⟩ rfl rfl (Nat.le_of_ble_eq_true rfl) hl.1 ⟨Nat.zero_le _, Nat.zero_le _⟩ dX6_tick_40 (fun G_40 H locs hR hP hS => ?_)
      have h_40 : ∃ dc, Z G_22 K dc G_40 := by
        rcases hR with z | ⟨i, dc, r, z1, z2, z3, z4, z5⟩
        · exact z
        · exact absurd z4.symm (nI_m1 (by omega))
      obtain ⟨dc, h_40⟩ := h_40
      obtain ⟨P5, hP5⟩ := hw _ _ _ _ h_40
      have hn5 := hP5.1
      refine lv_aload_n hx hb dX6_tick_43 rfl (lv_at hl 0 rfl) ?_
      refine kget X hP oX g_X6_12 rfl dX6_tick_44 ?_
      refine lv_iconst (v := nI 3) hx hb dX6_tick_47 (by decide) ?_
      refine kcV X hP hS (c_X4_readersIn l hI (j := 0) (n := n) (by omega) hn5 hn4) (oS (j := 0) (by omega)) v_X6_40 ⟨Nat.le_of_ble_eq_true rfl, Nat.le_of_ble_eq_true rfl, rfl, rfl⟩ rfl rfl (Nat.le_of_ble_eq_true rfl) hl.1 ⟨Nat.zero_le _, Nat.zero_le _⟩ dX6_tick_48 (fun r_48 G_48 H locs hR hP hS => ?_)
      obtain ⟨rfl, hG_48⟩ := hR
      rw [hG_48] at hP
      clear hG_48
      refine lv_iload_n hx hb dX6_tick_51 rfl (lv_at hl 2 rfl) ?_
      refine lv_isub hx hb dX6_tick_52 ?_
      exact hret _ _ _ _ _ _ (by rw [if_pos ⟨Int32.not_lt.mp c_2, c_8⟩, nI_clamp hK32]; exact ⟨G_22, dc, h_22, h_40, rfl⟩) hP hS dX6_tick_53
    · skip
      refine lv_bipush (v := (-2)) hx hb dX6_tick_11 (by decide) ?_
      exact hret _ _ _ _ _ _ (by rw [if_neg (fun z => absurd z.2 c_8)]; exact ⟨rfl, rfl⟩) hP hS dX6_tick_13
end
section
/-! Counting: sums over numbers, exchanged, of one summand. -/
theorem rm_add (f g : Nat → Nat) (n : Nat) : cn (fun i => f i + g i) n = cn f n + cn g n := by
  induction n with
  | zero => rfl
  | succ n ih => rw [cn, cn, cn, ih]; omega
theorem rm_zero {f : Nat → Nat} {n : Nat} (h : ∀ i, i < n → f i = 0) : cn f n = 0 := by
  induction n with
  | zero => rfl
  | succ n ih => rw [cn, ih (fun i hi => h i (by omega)), h n (by omega)]
theorem rm_swap (f : Nat → Nat → Nat) (n m : Nat) : cn (fun i => cn (fun j => f i j) m) n = cn (fun j => cn (fun i => f i j) n) m := by
  induction n with
  | zero => rw [cn, rm_zero]; intro i _; rfl
  | succ n ih =>
    rw [cn, ih, ← rm_add]
    rfl
theorem rm_one {f : Nat → Nat} {n a : Nat} (ha : a < n) (h : ∀ i, i < n → i ≠ a → f i = 0) : cn f n = f a := by
  induction n with
  | zero => omega
  | succ n ih =>
    rw [cn]
    rcases Nat.lt_or_ge a n with q | q
    · rw [ih q (fun i hi => h i (by omega)), h n (by omega) (by omega)]; omega
    · have e : a = n := by omega
      rw [rm_zero (fun i hi => h i (by omega) (by omega)), e]; omega
theorem rm_mono {f g : Nat → Nat} {n : Nat} (h : ∀ i, i < n → f i ≤ g i) : cn f n ≤ cn g n := by
  induction n with
  | zero => exact Nat.le_refl _
  | succ n ih =>
    have := ih (fun i hi => h i (by omega))
    have := h n (by omega)
    rw [cn, cn]; omega
theorem rm_ex {f : Nat → Nat} {n : Nat} (h : cn f n ≠ 0) : ∃ i, i < n ∧ f i ≠ 0 := by
  induction n with
  | zero => exact absurd rfl h
  | succ n ih =>
    rw [cn] at h
    by_cases q : f n = 0
    · obtain ⟨i, h1, h2⟩ := ih (by omega)
      exact ⟨i, by omega, h2⟩
    · exact ⟨n, by omega, q⟩
theorem rm_const (n x : Nat) : cn (fun _ => x) n = n * x := by
  induction n with
  | zero => rw [cn]; omega
  | succ n ih => rw [cn, ih, Nat.succ_mul]
theorem rm_split (f : Nat → Nat) (a b : Nat) : cn f (a + b) = cn f a + cn (fun i => f (a + i)) b := by
  induction b with
  | zero => rfl
  | succ b ih => rw [← Nat.add_assoc, cn, ih, cn]; omega
theorem rm_first (f : Nat → Nat) (n : Nat) : cn f (n + 1) = f 0 + cn (fun i => f (i + 1)) n := by
  induction n with
  | zero => rw [cn, cn, cn]; omega
  | succ n ih => rw [cn, ih, cn]; omega
/-- an indicator's count over an injection -/
theorem rm_nI (f : Nat → Nat) (n : Nat) : sm (fun i => nI (f i)) n = nI (cn f n) := by
  induction n with
  | zero => rfl
  | succ n ih => rw [sm, cn, ih, nI_add]
theorem sm_zero {f : Nat → Int32} {n : Nat} (h : ∀ i, i < n → f i = 0) : sm f n = 0 := by
  induction n with
  | zero => rfl
  | succ n ih => rw [sm, ih (fun i hi => h i (by omega)), h n (by omega)]; rfl
theorem sm_add (f g : Nat → Int32) (n : Nat) : sm (fun i => f i + g i) n = sm f n + sm g n := by
  induction n with
  | zero => rfl
  | succ n ih =>
    rw [sm, sm, sm, ih]
    rw [Int32.add_assoc, Int32.add_assoc, ← Int32.add_assoc (sm g n), Int32.add_comm (sm g n), Int32.add_assoc]
theorem sm_swap (f : Nat → Nat → Int32) (n m : Nat) : sm (fun i => sm (fun j => f i j) m) n = sm (fun j => sm (fun i => f i j) n) m := by
  induction n with
  | zero => rw [sm, sm_zero]; intro i _; rfl
  | succ n ih =>
    rw [sm, ih, ← sm_add]
    rfl
theorem sm_one {f : Nat → Int32} {n a : Nat} (ha : a < n) (h : ∀ i, i < n → i ≠ a → f i = 0) : sm f n = f a := by
  induction n with
  | zero => omega
  | succ n ih =>
    rw [sm]
    rcases Nat.lt_or_ge a n with q | q
    · rw [ih q (fun i hi => h i (by omega)), h n (by omega) (by omega), Int32.add_zero]
    · have e : a = n := by omega
      rw [sm_zero (fun i hi => h i (by omega) (by omega)), e, Int32.zero_add]
/-! bits -/
theorem hb_s (x : Int32) (k : Nat) (hk : k < 32) : hw x k ↔ x.toBitVec.getLsbD k = true := by
  have e : ((nI k &&& 31).toBitVec.smod 32).toNat = k := by
    have : ∀ k, k < 32 → ((nI k &&& 31).toBitVec.smod 32).toNat = k := by decide +kernel
    exact this k hk
  have e1 : (x >>> (nI k &&& 31)).toBitVec = x.toBitVec.sshiftRight k := by
    rw [Int32.toBitVec_shiftRight, BitVec.sshiftRight_eq', e]
  unfold hw
  rw [← Int32.toBitVec_inj, Int32.toBitVec_and, e1]
  have e2 : (nI 1).toBitVec = BitVec.ofNat 32 1 := rfl
  have e3 : (0 : Int32).toBitVec = BitVec.ofNat 32 0 := rfl
  rw [e2, e3]
  have key : (x.toBitVec.sshiftRight k &&& BitVec.ofNat 32 1 = BitVec.ofNat 32 0) ↔ (x.toBitVec.sshiftRight k).getLsbD 0 = false := by
    constructor
    · intro h
      have := congrArg (fun z => z.getLsbD 0) h
      simpa using this
    · intro h
      apply BitVec.eq_of_getLsbD_eq
      intro i hi
      rw [BitVec.getLsbD_and]
      by_cases q : i = 0
      · subst q; rw [h]; rfl
      · have : (BitVec.ofNat 32 1).getLsbD i = false := by
          rw [BitVec.getLsbD_ofNat]
          have : Nat.testBit 1 i = false := by
            refine Nat.testBit_lt_two_pow ?_
            have : 2 ^ 1 ≤ 2 ^ i := Nat.pow_le_pow_right (by omega) (by omega)
            omega
          rw [this]; simp
        rw [this]; simp
  rw [key, BitVec.getLsbD_sshiftRight]
  have : ¬ 32 ≤ 0 := by omega
  simp [hk]
theorem hb_or (x y : Int32) (k : Nat) (hk : k < 32) : hw (x ||| y) k ↔ hw x k ∨ hw y k := by
  rw [hb_s _ k hk, hb_s _ k hk, hb_s _ k hk, Int32.toBitVec_or, BitVec.getLsbD_or, Bool.or_eq_true]
theorem hb_and (x y : Int32) (k : Nat) (hk : k < 32) : hw (x &&& y) k ↔ hw x k ∧ hw y k := by
  rw [hb_s _ k hk, hb_s _ k hk, hb_s _ k hk, Int32.toBitVec_and, BitVec.getLsbD_and, Bool.and_eq_true]
theorem hb_bt (q k : Nat) (hq : q < 32) (hk : k < 32) : hw (bt q) k ↔ q = k := by
  have : ∀ q, q < 32 → ∀ k, k < 32 → (hw (bt q) k ↔ q = k) := by decide +kernel
  exact this q hq k hk
theorem hb_m2 (k : Nat) (hk : k < 32) : hw (-2) k ↔ k ≠ 0 := by
  have : ∀ k, k < 32 → (hw (-2) k ↔ k ≠ 0) := by decide +kernel
  exact this k hk
theorem hb_so {f : Nat → Int32} {n k : Nat} (hk : k < 32) : hw (so f n) k ↔ ∃ i, i < n ∧ hw (f i) k := by
  induction n with
  | zero => exact ⟨fun h => absurd h (hw_0 hk), fun ⟨i, h, _⟩ => absurd h (by omega)⟩
  | succ n ih =>
    rw [so, hb_or _ _ k hk, ih]
    constructor
    · rintro (⟨i, h1, h2⟩ | h)
      · exact ⟨i, by omega, h2⟩
      · exact ⟨n, by omega, h⟩
    · rintro ⟨i, h1, h2⟩
      rcases Nat.lt_or_ge i n with q | q
      · exact Or.inl ⟨i, q, h2⟩
      · exact Or.inr (by rw [show n = i by omega]; exact h2)
/-- small numbers stay small -/
def sml (x : Int32) (m : Nat) : Prop := ∃ a, a < 2 ^ m ∧ x = nI a
theorem nI_or (a b : Nat) (ha : a < 2 ^ 32) (hb : b < 2 ^ 32) : nI a ||| nI b = nI (a ||| b) := by
  rw [← Int32.toBitVec_inj, Int32.toBitVec_or]
  apply BitVec.eq_of_toNat_eq
  rw [BitVec.toNat_or, pk_tn ha, pk_tn hb, pk_tn (Nat.or_lt_two_pow ha hb)]
theorem sml_or {x y : Int32} {m : Nat} (hm : m ≤ 31) (hx : sml x m) (hy : sml y m) : sml (x ||| y) m := by
  obtain ⟨a, ha, rfl⟩ := hx
  obtain ⟨b, hb, rfl⟩ := hy
  have h2 : 2 ^ m ≤ 2 ^ 32 := Nat.pow_le_pow_right (by omega) (by omega)
  exact ⟨a ||| b, Nat.or_lt_two_pow ha hb, nI_or a b (by omega) (by omega)⟩
theorem sml_bt {q m : Nat} (h : q < m) (hm : m ≤ 31) : sml (bt q) m := by
  have key : ∀ q, q < 31 → bt q = nI (2 ^ q) := by decide +kernel
  exact ⟨2 ^ q, Nat.pow_lt_pow_right (by omega) h, key q (by omega)⟩
theorem sml_0 (m : Nat) : sml 0 m := ⟨0, Nat.two_pow_pos m, rfl⟩
theorem sml_so {f : Nat → Int32} {n m : Nat} (hm : m ≤ 31) (h : ∀ i, i < n → sml (f i) m) : sml (so f n) m := by
  induction n with
  | zero => exact sml_0 m
  | succ n ih => exact sml_or hm (ih (fun i hi => h i (by omega))) (h n (by omega))
/-- how many of the first m bits are set -/
def bcn (x : Int32) (m : Nat) : Nat := cn (fun k => if hw x k then 1 else 0) m
theorem bc_10 {x : Int32} (h : sml x 10) : bcF x = nI (bcn x 10) := by
  have key : ∀ a, a < 1024 → bcF (nI a) = nI (bcn (nI a) 10) := by decide +kernel
  obtain ⟨a, ha, rfl⟩ := h
  exact key a ha
theorem bc_ones {x : Int32} (h : sml x 12) : bcF x = sm (fun k => x >>> (nI k &&& 31) &&& nI 1) 12 := by
  have key : ∀ a, a < 64 → ∀ b, b < 64 → bcF (nI (64 * a + b)) = sm (fun k => nI (64 * a + b) >>> (nI k &&& 31) &&& nI 1) 12 := by decide +kernel
  obtain ⟨a, ha, rfl⟩ := h
  have := key (a / 64) (by omega) (a % 64) (by omega)
  rw [show 64 * (a / 64) + a % 64 = a by omega] at this
  exact this
end
section
/-! The reference's table of versions and the places of the class's cells, over numbers. -/
def dcr (m : Nat → Nat) (P : Nat) : Prop := ∀ p q, p < q → q < P → m q < m p
/-- the first place that is not later than o -/
def fq (m : Nat → Nat) (o P : Nat) : Nat := cn (fun p => if o < m p then 1 else 0) P
theorem fq_le (m : Nat → Nat) (o P : Nat) : fq m o P ≤ P := cn_le (fun i _ => by split <;> omega)
theorem fq_lt {m : Nat → Nat} {o : Nat} : ∀ {P p : Nat}, dcr m P → p < P → (p < fq m o P ↔ o < m p) := by
  intro P
  induction P with
  | zero => intro p _ h; omega
  | succ P ih =>
    intro p hd hp
    have hd' : dcr m P := fun a b h1 h2 => hd a b h1 (by omega)
    have hle := fq_le m o P
    have e : fq m o (P + 1) = fq m o P + (if o < m P then 1 else 0) := rfl
    by_cases q : o < m P
    · have hall : fq m o P = P := by
        rcases Nat.lt_or_ge (fq m o P) P with z | z
        · have := (ih hd' z).mpr (Nat.lt_trans q (hd _ _ z (by omega)))
          omega
        · omega
      rw [e, if_pos q, hall]
      refine ⟨fun _ => ?_, fun _ => by omega⟩
      rcases Nat.lt_or_ge p P with z | z
      · exact Nat.lt_trans q (hd _ _ z (by omega))
      · rw [show p = P by omega]; exact q
    · rw [e, if_neg q, Nat.add_zero]
      rcases Nat.lt_or_ge p P with z | z
      · exact ih hd' z
      · refine ⟨fun h => by omega, fun h => ?_⟩
        rw [show p = P by omega] at h
        exact absurd h q
theorem fq_at {m : Nat → Nat} {o P : Nat} (hd : dcr m P) (h : fq m o P < P) : m (fq m o P) ≤ o := by
  have := fq_lt (o := o) hd h
  omega
theorem fq_in {m : Nat → Nat} {o P : Nat} (hd : dcr m P) (h1 : 1 ≤ P) (h : m (P - 1) ≤ o) : fq m o P < P := by
  rcases Nat.lt_or_ge (fq m o P) P with z | z
  · exact z
  · have := (fq_lt (o := o) hd (show P - 1 < P by omega)).mp (by omega)
    omega
theorem fq_is {m : Nat → Nat} {o P p : Nat} (hd : dcr m P) (hp : p < P) (h : m p ≤ o) (h2 : ∀ q, q < p → o < m q) : fq m o P = p := by
  have h3 : ¬ p < fq m o P := fun z => by have := (fq_lt (o := o) hd hp).mp z; omega
  rcases Nat.lt_or_ge (fq m o P) p with z | z
  · have := fq_at (o := o) hd (by omega)
    have := h2 _ z
    omega
  · omega
theorem fq_top {m : Nat → Nat} {o P : Nat} (hd : dcr m P) (h1 : 1 ≤ P) (h : m 0 ≤ o) : fq m o P = 0 := fq_is hd (by omega) h (fun q hq => by omega)
theorem pf_fq {M : Nat → Int32} {m : Nat → Nat} {o P : Nat} (hd : dcr m P) (hM : ∀ p, p < P → M p = nI (m p) ∧ m p < 1000) (ho : o < 1000) : pf M (nI o) 0 P = if fq m o P < P then nI (fq m o P) else -1 := by
  have key : ∀ k i, i + k = P → i ≤ fq m o P → pf M (nI o) i k = if fq m o P < P then nI (fq m o P) else -1 := by
    intro k
    induction k with
    | zero => intro i h1 h2; rw [pf, if_neg (by omega)]
    | succ k ih =>
      intro i h1 h2
      obtain ⟨e1, e2⟩ := hM i (by omega)
      have hlt := fq_lt (o := o) hd (show i < P by omega)
      rw [pf, e1]
      by_cases q : m i ≤ o
      · have e : fq m o P = i := by omega
        rw [if_pos (nI_le q (by omega)), e, if_pos (by omega)]
      · rw [if_neg (nI_ge (by omega) (by omega))]
        exact ih (i + 1) (by omega) (by omega)
  exact key P 0 (by omega) (Nat.zero_le _)
/-! the table -/
def rowR (N : Nat → Int32) (v c m : Nat) (x : Int32) : Prop := N (809 + 3 * v + 0) = nI c ∧ N (809 + 3 * v + 1) = nI m ∧ N (809 + 3 * v + 2) = x
/-- the table's rows are the places of S -/
def TbS (N : Nat → Int32) (W : Nat) (S : Nat → Nat → Prop) (P : Nat → Nat) (mo : Nat → Nat → Nat) (va : Nat → Nat → Int32) (vx : Nat → Nat → Nat) : Prop :=
  (∀ c p, c < 12 → p < P c → S c p → vx c p < W ∧ rowR N (vx c p) c (mo c p) (va c p)) ∧ ∀ v, v < W → ∃ c p, c < 12 ∧ p < P c ∧ S c p ∧ v = vx c p
theorem vaS_spec (N : Nat → Int32) (x y : Int32) : ∀ V, (∀ u, u < V → N (809 + 3 * u + 0) = x → (-1 : Int32) < N (809 + 3 * u + 1)) →
    ((∃ u, u < V ∧ N (809 + 3 * u + 0) = x ∧ N (809 + 3 * u + 1) ≤ y ∧ vaS N x y V = (u, N (809 + 3 * u + 1))) ∨ (vaS N x y V = (0, -1) ∧ ∀ u, u < V → ¬ (N (809 + 3 * u + 0) = x ∧ N (809 + 3 * u + 1) ≤ y))) ∧
    ∀ u, u < V → N (809 + 3 * u + 0) = x → N (809 + 3 * u + 1) ≤ y → N (809 + 3 * u + 1) ≤ (vaS N x y V).2 := by
  intro V
  induction V with
  | zero => intro _; exact ⟨Or.inr ⟨rfl, fun u h => absurd h (by omega)⟩, fun u h => absurd h (by omega)⟩
  | succ V ih =>
    intro h0
    obtain ⟨i1, i2⟩ := ih (fun u hu => h0 u (by omega))
    rw [vaS]
    by_cases q : N (809 + 3 * V + 0) = x ∧ N (809 + 3 * V + 1) ≤ y ∧ (vaS N x y V).2 < N (809 + 3 * V + 1)
    · rw [if_pos q]
      refine ⟨Or.inl ⟨V, by omega, q.1, q.2.1, rfl⟩, fun u hu h1 h2 => ?_⟩
      rcases Nat.lt_or_ge u V with z | z
      · exact Int32.le_trans (i2 u z h1 h2) (Int32.le_of_lt q.2.2)
      · rw [show u = V by omega]; exact Int32.le_refl _
    · rw [if_neg q]
      constructor
      · rcases i1 with ⟨u, a, b, c, d⟩ | ⟨a, b⟩
        · exact Or.inl ⟨u, by omega, b, c, d⟩
        · refine Or.inr ⟨a, fun u hu z => ?_⟩
          rcases Nat.lt_or_ge u V with w | w
          · exact b u w z
          · have e : u = V := by omega
            subst e
            exact q ⟨z.1, z.2, by rw [a]; exact h0 u (by omega) z.1⟩
      · intro u hu h1 h2
        rcases Nat.lt_or_ge u V with w | w
        · exact i2 u w h1 h2
        · have e : u = V := by omega
          subst e
          exact Int32.not_lt.mp (fun z => q ⟨h1, h2, z⟩)
theorem nI_in50 {a b : Nat} (ha : a < 1000) (hb : b < 1000) (h : nI a = nI b) : a = b := (nI_eq (by omega) (by omega)).mp h
theorem dcr_inj {m : Nat → Nat} {P p q : Nat} (hd : dcr m P) (hp : p < P) (hq : q < P) (h : m p = m q) : p = q := by
  rcases Nat.lt_trichotomy p q with z | z | z
  · have := hd _ _ z hq; omega
  · exact z
  · have := hd _ _ z hp; omega
section TBL
variable {N : Nat → Int32} {W : Nat} {S : Nat → Nat → Prop} {P : Nat → Nat} {mo : Nat → Nat → Nat} {va : Nat → Nat → Int32} {vx : Nat → Nat → Nat}
theorem TbS_inj (hT : TbS N W S P mo va vx) (hd : ∀ c, c < 12 → dcr (mo c) (P c)) (hm : ∀ c p, c < 12 → p < P c → mo c p < 1000) {c p c' p' : Nat} (hc : c < 12) (hp : p < P c) (hs : S c p) (hc' : c' < 12) (hp' : p' < P c') (hs' : S c' p') (h : vx c p = vx c' p') : c = c' ∧ p = p' := by
  obtain ⟨-, a1, a2, -⟩ := hT.1 c p hc hp hs
  obtain ⟨-, b1, b2, -⟩ := hT.1 c' p' hc' hp' hs'
  rw [h, b1] at a1
  rw [h, b2] at a2
  have e : c = c' := (nI_in50 (by omega) (by omega) a1).symm
  subst e
  exact ⟨rfl, dcr_inj (hd c hc) hp hp' (nI_in50 (hm c p' hc hp') (hm c p hc hp) a2).symm⟩
theorem TbS_va (hT : TbS N W S P mo va vx) (hd : ∀ c, c < 12 → dcr (mo c) (P c)) (hm : ∀ c p, c < 12 → p < P c → mo c p < 1000) {c p o : Nat} (ho : o < 1000) (hc : c < 12) (hp : p < P c) (hs : S c p) (h1 : mo c p ≤ o) (h2 : ∀ q, q < P c → S c q → mo c q ≤ o → mo c q ≤ mo c p) : vA N W (nI c) (nI o) = vx c p := by
  have h0 : ∀ u, u < W → N (809 + 3 * u + 0) = nI c → (-1 : Int32) < N (809 + 3 * u + 1) := by
    intro u hu _
    obtain ⟨c', p', a1, a2, a3, a4⟩ := hT.2 u hu
    obtain ⟨-, -, b2, -⟩ := hT.1 c' p' a1 a2 a3
    rw [a4, b2]
    exact Int32.lt_of_lt_of_le (by decide) (nI_pos' (n := mo c' p') (by have := hm c' p' a1 a2; omega))
  obtain ⟨s1, s2⟩ := vaS_spec N (nI c) (nI o) W h0
  obtain ⟨g1, g2, g3, -⟩ := hT.1 c p hc hp hs
  have hmp := hm c p hc hp
  have hle := s2 _ g1 g2 (by rw [g3]; exact nI_le h1 (by omega))
  rcases s1 with ⟨u, u1, u2, u3, u4⟩ | ⟨-, u2⟩
  · unfold vA
    rw [u4]
    show u = vx c p
    obtain ⟨c', p', a1, a2, a3, a4⟩ := hT.2 u u1
    obtain ⟨-, b1, b2, -⟩ := hT.1 c' p' a1 a2 a3
    subst a4
    rw [b1] at u2
    have e : c' = c := nI_in50 (by omega) (by omega) u2
    subst e
    have hmp' := hm c' p' a1 a2
    rw [b2] at u3
    rw [u4, g3] at hle
    have h3 := h2 p' a2 a3 ((nI_leI (by omega) (by omega)).mp u3)
    have h4 : mo c' p ≤ mo c' p' := by
      have : nI (mo c' p) ≤ nI (mo c' p') := by rw [← b2]; exact hle
      exact (nI_leI (by omega) (by omega)).mp this
    rw [dcr_inj (hd c' hc) a2 hp (by omega)]
  · exact absurd ⟨g2, by rw [g3]; exact nI_le h1 (by omega)⟩ (u2 _ g1)
end TBL
/-- the numbers that say who sees what -/
def ABS (N : Nat → Int32) (n k : Nat) (P : Nat → Nat) (mo : Nat → Nat → Nat) (ow : Nat → Nat) : Prop :=
  (∀ c, c < 12 → 1 ≤ P c ∧ P c ≤ 10 ∧ mo c 0 ≤ k ∧ dcr (mo c) (P c)) ∧ N 0 = nI k ∧ k ≤ 50 ∧ n ≤ 40 ∧ (∀ r, r < n → N (9 + 20 * r + 0) = nI (ow r) ∧ ow r ≤ k) ∧ ∀ r, r < n → N (9 + 20 * r + 2) = 0 → ∀ c, c < 12 → mo c (P c - 1) ≤ ow r
/-- an open reader sees a place -/
def SE (N : Nat → Int32) (P : Nat → Nat) (mo : Nat → Nat → Nat) (ow : Nat → Nat) (r c p : Nat) : Prop := N (9 + 20 * r + 2) = 0 ∧ fq (mo c) (ow r) (P c) = p
/-- what is kept -/
def KP (N : Nat → Int32) (n : Nat) (P : Nat → Nat) (mo : Nat → Nat → Nat) (ow : Nat → Nat) (c p : Nat) : Prop := p = 0 ∨ ∃ r, r < n ∧ SE N P mo ow r c p
theorem ABS_m {N : Nat → Int32} {n k : Nat} {P : Nat → Nat} {mo : Nat → Nat → Nat} {ow : Nat → Nat} (hA : ABS N n k P mo ow) {c p : Nat} (hc : c < 12) (hp : p < P c) : mo c p ≤ k := by
  obtain ⟨h1, h2, h3, h4⟩ := hA.1 c hc
  rcases Nat.eq_zero_or_pos p with z | z
  · rw [z]; exact h3
  · have := h4 0 p z hp; omega
theorem ABS_f {N : Nat → Int32} {n k : Nat} {P : Nat → Nat} {mo : Nat → Nat → Nat} {ow : Nat → Nat} (hA : ABS N n k P mo ow) {r c : Nat} (hr : r < n) (ho : N (9 + 20 * r + 2) = 0) (hc : c < 12) : fq (mo c) (ow r) (P c) < P c := by
  obtain ⟨h1, h2, h3, h4⟩ := hA.1 c hc
  exact fq_in h4 h1 (hA.2.2.2.2.2 r hr ho c hc)
section EVA
variable {N N1 : Nat → Int32} {V1 n k : Nat} {S : Nat → Nat → Prop} {P : Nat → Nat} {mo : Nat → Nat → Nat} {va : Nat → Nat → Int32} {vx : Nat → Nat → Nat} {ow : Nat → Nat}
theorem ev_new (hA : ABS N n k P mo ow) (hT : TbS N1 V1 S P mo va vx) (hS : ∀ c p, KP N n P mo ow c p → S c p) (h0 : N1 0 = N 0) {c : Nat} (hc : c < 12) : vA N1 V1 (nI c) (N1 0) = vx c 0 := by
  obtain ⟨h1, h2, h3, h4⟩ := hA.1 c hc
  rw [h0, hA.2.1]
  refine TbS_va hT (fun c hc => (hA.1 c hc).2.2.2) (fun c p hc hp => by have := ABS_m hA hc hp; have := hA.2.2.1; omega) (by have := hA.2.2.1; omega) hc (by omega) (hS c 0 (Or.inl rfl)) h3 (fun q hq _ _ => ?_)
  rcases Nat.eq_zero_or_pos q with z | z
  · rw [z]; exact Nat.le_refl _
  · have := h4 0 q z hq; omega
theorem ev_see (hA : ABS N n k P mo ow) (hT : TbS N1 V1 S P mo va vx) (hS : ∀ c p, KP N n P mo ow c p → S c p) {r c : Nat} (hr : r < n) (ho : N (9 + 20 * r + 2) = 0) (hc : c < 12) : vA N1 V1 (nI c) (N (9 + 20 * r + 0)) = vx c (fq (mo c) (ow r) (P c)) := by
  obtain ⟨h1, h2, h3, h4⟩ := hA.1 c hc
  have hf := ABS_f hA hr ho hc
  rw [(hA.2.2.2.2.1 r hr).1]
  refine TbS_va hT (fun c hc => (hA.1 c hc).2.2.2) (fun c p hc hp => by have := ABS_m hA hc hp; have := hA.2.2.1; omega) (by have := (hA.2.2.2.2.1 r hr).2; have := hA.2.2.1; omega) hc hf (hS c _ (Or.inr ⟨r, hr, ho, rfl⟩)) (fq_at h4 hf) (fun q hq _ hle => ?_)
  have hq2 := fq_lt (o := ow r) h4 hq
  rcases Nat.lt_or_ge (fq (mo c) (ow r) (P c)) q with z | z
  · exact Nat.le_of_lt (h4 _ _ z hq)
  · rw [show q = fq (mo c) (ow r) (P c) by omega]; exact Nat.le_refl _
theorem ev_old (hA : ABS N n k P mo ow) (hT : TbS N1 V1 S P mo va vx) (hS : ∀ c p, KP N n P mo ow c p → S c p) (h0 : N1 0 = N 0) {c p : Nat} (hc : c < 12) (hp : p < P c) (hs : S c p) : olM N1 V1 (vx c p) ↔ p ≠ 0 := by
  have e := ev_new hA hT hS h0 hc
  have hr := (hT.1 c p hc hp hs).2.1
  have hm : ∀ c p, c < 12 → p < P c → mo c p < 1000 := fun c p hc hp => by have := ABS_m hA hc hp; have := hA.2.2.1; omega
  unfold olM
  rw [hr, e]
  constructor
  · intro h z; rw [z] at h; exact h rfl
  · intro h z
    exact h (TbS_inj hT (fun c hc => (hA.1 c hc).2.2.2) hm hc (hA.1 c hc).1 (hS c 0 (Or.inl rfl)) hc hp hs z).2.symm
theorem ev_sees (hA : ABS N n k P mo ow) (hT : TbS N1 V1 S P mo va vx) (hS : ∀ c p, KP N n P mo ow c p → S c p) {r c p : Nat} (hr : r < n) (hn2 : N1 (9 + 20 * r + 2) = N (9 + 20 * r + 2)) (hn0 : N1 (9 + 20 * r + 0) = N (9 + 20 * r + 0)) (hc : c < 12) (hp : p < P c) (hs : S c p) : seM N1 V1 r (vx c p) ↔ SE N P mo ow r c p := by
  have hrw := (hT.1 c p hc hp hs).2.1
  have hm : ∀ c p, c < 12 → p < P c → mo c p < 1000 := fun c p hc hp => by have := ABS_m hA hc hp; have := hA.2.2.1; omega
  unfold seM SE
  rw [hrw, hn2, hn0]
  constructor
  · rintro ⟨h1, h2⟩
    rw [ev_see hA hT hS hr h1 hc] at h2
    exact ⟨h1, (TbS_inj hT (fun c hc => (hA.1 c hc).2.2.2) hm hc (ABS_f hA hr h1 hc) (hS c _ (Or.inr ⟨r, hr, h1, rfl⟩)) hc hp hs h2).2⟩
  · rintro ⟨h1, h2⟩
    exact ⟨h1, by rw [ev_see hA hT hS hr h1 hc, h2]⟩
/-- a row goes where no one sees it and it is old -/
theorem ev_keep (hA : ABS N n k P mo ow) (hT : TbS N1 V1 S P mo va vx) (hS : ∀ c p, KP N n P mo ow c p → S c p) (hf : ∀ f, f < 809 → f ≠ 8 → N1 f = N f) {c p : Nat} (hc : c < 12) (hp : p < P c) (hs : S c p) : (olM N1 V1 (vx c p) ∧ nI (cn (sbM N1 V1 (vx c p) (nI 1)) n) = 0) ↔ ¬ KP N n P mo ow c p := by
  have hn4 := hA.2.2.2.1
  have hcl : cn (sbM N1 V1 (vx c p) (nI 1)) n ≤ n := cn_le (fun i _ => by unfold sbM; split <;> omega)
  have hz : nI (cn (sbM N1 V1 (vx c p) (nI 1)) n) = 0 ↔ cn (sbM N1 V1 (vx c p) (nI 1)) n = 0 := by
    rw [← nI_0]; exact nI_eq (by omega) (by omega)
  rw [ev_old hA hT hS (hf 0 (by omega) (by omega)) hc hp hs, hz]
  constructor
  · rintro ⟨h1, h2⟩ (h | ⟨r, hr, h⟩)
    · exact h1 h
    · refine cn_pos hr ?_ h2
      unfold sbM
      rw [if_pos ⟨(ev_sees hA hT hS hr (hf _ (by omega) (by omega)) (hf _ (by omega) (by omega)) hc hp hs).mpr h, Or.inl (by decide)⟩]
      omega
  · intro h
    refine ⟨fun z => h (Or.inl z), ?_⟩
    refine rm_zero (fun r hr => ?_)
    unfold sbM
    rw [if_neg]
    rintro ⟨z, -⟩
    exact h (Or.inr ⟨r, hr, (ev_sees hA hT hS hr (hf _ (by omega) (by omega)) (hf _ (by omega) (by omega)) hc hp hs).mp z⟩)
end EVA
end
section
/-! The reference's removes: what is kept. -/
theorem shK_lo {N : Nat → Int32} {V v kk f : Nat} (h8 : f ≠ 8) (h : f < 809 + 3 * v ∨ 809 + kk ≤ f) : shK N V v kk f = N f := by
  unfold shK; rw [if_neg h8, if_neg (by omega)]
theorem shK_hi {N : Nat → Int32} {V v kk f : Nat} (h8 : f ≠ 8) (h : 809 + 3 * v ≤ f ∧ f < 809 + kk) : shK N V v kk f = N (f + 3) := by
  unfold shK; rw [if_neg h8, if_pos h]
/-- the number of a row, without the row v -/
def dn1 (v u : Nat) : Nat := if v < u then u - 1 else u
theorem shK_row {N : Nat → Int32} {V v u c m : Nat} {x : Int32} (hv : v < V) (hu : u < V) (hne : u ≠ v) (h : rowR N u c m x) : dn1 v u < V - 1 ∧ rowR (shK N V v (3 * (V - 1))) (dn1 v u) c m x := by
  unfold dn1
  by_cases q : v < u
  · rw [if_pos q]
    refine ⟨by omega, ?_⟩
    have e : 3 * u = 3 * (u - 1) + 3 := by omega
    obtain ⟨a, b, d⟩ := h
    refine ⟨?_, ?_, ?_⟩
    · rw [shK_hi (by omega) (by omega), show 809 + 3 * (u - 1) + 0 + 3 = 809 + 3 * u + 0 by omega]; exact a
    · rw [shK_hi (by omega) (by omega), show 809 + 3 * (u - 1) + 1 + 3 = 809 + 3 * u + 1 by omega]; exact b
    · rw [shK_hi (by omega) (by omega), show 809 + 3 * (u - 1) + 2 + 3 = 809 + 3 * u + 2 by omega]; exact d
  · rw [if_neg q]
    refine ⟨by omega, ?_⟩
    obtain ⟨a, b, d⟩ := h
    exact ⟨by rw [shK_lo (by omega) (by omega)]; exact a, by rw [shK_lo (by omega) (by omega)]; exact b, by rw [shK_lo (by omega) (by omega)]; exact d⟩
section RMV
variable {N : Nat → Int32} {W n k : Nat} {P : Nat → Nat} {mo : Nat → Nat → Nat} {va : Nat → Nat → Int32} {vx : Nat → Nat → Nat} {ow : Nat → Nat}
/-- how far the removal is, d rows from the last -/
def RJ (N N1 : Nat → Int32) (W V1 cnt d n : Nat) (P : Nat → Nat) (mo : Nat → Nat → Nat) (va : Nat → Nat → Int32) (ow : Nat → Nat) (vx : Nat → Nat → Nat) (S : Nat → Nat → Prop) (vx1 : Nat → Nat → Nat) : Prop :=
  (∀ c p, KP N n P mo ow c p → S c p) ∧ TbS N1 V1 S P mo va vx1 ∧ (∀ c p, c < 12 → p < P c → vx c p < W - d → S c p ∧ vx1 c p = vx c p) ∧ (∀ c p, c < 12 → p < P c → W - d ≤ vx c p → S c p → KP N n P mo ow c p ∧ W - d ≤ vx1 c p) ∧ V1 + cnt = W ∧ W - d ≤ V1 ∧ ∀ f, f ≠ 8 → f < 809 ∨ 1001 ≤ f → N1 f = N f
theorem rm_J (hA : ABS N n k P mo ow) (hT : TbS N W (fun _ _ => True) P mo va vx) (hW : W ≤ 64) : ∀ d, d ≤ W → ∃ S vx1, RJ N (rmD N n W d).1 W (rmD N n W d).2.1 (rmD N n W d).2.2 d n P mo va ow vx S vx1 := by
  have hm : ∀ c p, c < 12 → p < P c → mo c p < 1000 := fun c p hc hp => by have := ABS_m hA hc hp; have := hA.2.2.1; omega
  have hdc : ∀ c, c < 12 → dcr (mo c) (P c) := fun c hc => (hA.1 c hc).2.2.2
  intro d
  induction d with
  | zero =>
    intro _
    exact ⟨fun _ _ => True, vx, fun _ _ _ => trivial, hT, fun _ _ _ _ _ => ⟨trivial, rfl⟩, fun c p hc hp h _ => by have := (hT.1 c p hc hp trivial).1; omega, by show W + 0 = W; omega, by show W - 0 ≤ W; omega, fun _ _ _ => rfl⟩
  | succ d ih =>
    intro hd
    obtain ⟨S, vx1, j1, j2, j3, j4, j5, j6, j7⟩ := ih (by omega)
    obtain ⟨N1, V1, cnt, es⟩ : ∃ N1 V1 cnt, rmD N n W d = (N1, V1, cnt) := ⟨_, _, _, rfl⟩
    rw [es] at j2 j5 j6 j7
    dsimp only at j2 j5 j6 j7
    rw [rmD, es]
    obtain ⟨c, p, hc, hp, -, hv⟩ := hT.2 (W - 1 - d) (by omega)
    obtain ⟨hs, hx⟩ := j3 c p hc hp (by omega)
    have hkeep := ev_keep hA j2 j1 (fun f h1 h2 => j7 f h2 (Or.inl h1)) hc hp hs
    rw [hx, ← hv] at hkeep
    by_cases hk : KP N n P mo ow c p
    · rw [rmS_z (fun z => (hkeep.mp z) hk)]
      dsimp only
      refine ⟨S, vx1, j1, j2, fun c' p' a b h => j3 c' p' a b (by omega), fun c' p' a b h hs' => ?_, j5, by omega, j7⟩
      rcases Nat.lt_or_ge (vx c' p') (W - d) with z | z
      · have e : vx c' p' = vx c p := by omega
        obtain ⟨e1, e2⟩ := TbS_inj hT hdc hm a b trivial hc hp trivial e
        subst e1; subst e2
        exact ⟨hk, by omega⟩
      · obtain ⟨q1, q2⟩ := j4 c' p' a b z hs'
        exact ⟨q1, by omega⟩
    · rw [rmS_p (hkeep.mpr hk)]
      dsimp only
      have hvV : W - 1 - d < V1 := by omega
      have hne : ∀ c' p', c' < 12 → p' < P c' → S c' p' → ¬ (c' = c ∧ p' = p) → vx1 c' p' ≠ W - 1 - d := by
        intro c' p' a b s' h z
        exact h (TbS_inj j2 hdc hm a b s' hc hp hs (by rw [z, hx, hv]))
      refine ⟨fun c' p' => S c' p' ∧ ¬ (c' = c ∧ p' = p), fun c' p' => dn1 (W - 1 - d) (vx1 c' p'), ?_, ⟨?_, ?_⟩, ?_, ?_, by omega, by omega, ?_⟩
      · intro c' p' h
        refine ⟨j1 c' p' h, fun z => hk ?_⟩
        rw [← z.1, ← z.2]; exact h
      · intro c' p' a b hs'
        obtain ⟨g1, g2⟩ := j2.1 c' p' a b hs'.1
        exact shK_row hvV g1 (hne c' p' a b hs'.1 hs'.2) g2
      · intro u hu
        have hu2 : (if u < W - 1 - d then u else u + 1) < V1 := by split <;> omega
        obtain ⟨c', p', a, b, s', e⟩ := j2.2 _ hu2
        refine ⟨c', p', a, b, ⟨s', fun z => ?_⟩, ?_⟩
        · rw [z.1, z.2, hx, ← hv] at e
          split at e <;> omega
        · show u = dn1 (W - 1 - d) (vx1 c' p')
          unfold dn1
          rw [← e]
          split <;> split <;> omega
      · intro c' p' a b h
        obtain ⟨q1, q2⟩ := j3 c' p' a b (by omega)
        refine ⟨⟨q1, fun z => ?_⟩, ?_⟩
        · rw [z.1, z.2] at h; omega
        · show dn1 (W - 1 - d) (vx1 c' p') = vx c' p'
          unfold dn1; rw [q2, if_neg (by omega)]
      · intro c' p' a b h hs'
        rcases Nat.lt_or_ge (vx c' p') (W - d) with z | z
        · have e : vx c' p' = vx c p := by omega
          exact absurd (TbS_inj hT hdc hm a b trivial hc hp trivial e) hs'.2
        · obtain ⟨q1, q2⟩ := j4 c' p' a b z hs'.1
          refine ⟨q1, ?_⟩
          show W - (d + 1) ≤ dn1 (W - 1 - d) (vx1 c' p')
          unfold dn1; split <;> omega
      · intro f f8 hf
        rw [shK_lo f8 (by omega)]
        exact j7 f f8 hf
/-- removes: the table holds what is kept; the rest of the numbers stays -/
theorem rm_all (hA : ABS N n k P mo ow) (hT : TbS N W (fun _ _ => True) P mo va vx) (hW : W ≤ 64) : ∃ vx1, TbS (rmN N n W) (rmD N n W W).2.1 (KP N n P mo ow) P mo va vx1 ∧ (rmD N n W W).2.1 + (rmD N n W W).2.2 = W ∧ (∀ f, f ≠ 8 → f ≠ 3 → f < 809 ∨ 1001 ≤ f → rmN N n W f = N f) ∧ rmN N n W 3 = N 3 + nI (rmD N n W W).2.2 := by
  obtain ⟨S, vx1, j1, j2, j3, j4, j5, j6, j7⟩ := rm_J hA hT hW W (Nat.le_refl W)
  have hup : ∀ v i, i < 3 → rmN N n W (809 + 3 * v + i) = (rmD N n W W).1 (809 + 3 * v + i) := fun v i hi => by unfold rmN; rw [upd_ne (by omega)]
  refine ⟨vx1, ⟨fun c p hc hp hs => ?_, fun v hv => ?_⟩, j5, fun f f8 f3 hf => ?_, ?_⟩
  · obtain ⟨g1, g2, g3, g4⟩ := j2.1 c p hc hp (j1 c p hs)
    exact ⟨g1, by rw [hup _ 0 (by omega)]; exact g2, by rw [hup _ 1 (by omega)]; exact g3, by rw [hup _ 2 (by omega)]; exact g4⟩
  · obtain ⟨c, p, a, b, s', e⟩ := j2.2 v hv
    exact ⟨c, p, a, b, (j4 c p a b (by omega) s').1, e⟩
  · unfold rmN
    rw [upd_ne f3]
    exact j7 f f8 hf
  · unfold rmN
    rw [upd_eq, j7 3 (by omega) (Or.inl (by omega))]
/-- where all is kept nothing is done -/
theorem rm_none (hA : ABS N n k P mo ow) (hT : TbS N W (fun _ _ => True) P mo va vx) (hK : ∀ c p, c < 12 → p < P c → KP N n P mo ow c p) : ∀ d, d ≤ W → rmD N n W d = (N, W, 0) := by
  intro d
  induction d with
  | zero => intro _; rfl
  | succ d ih =>
    intro hd
    rw [rmD, ih (by omega)]
    obtain ⟨c, p, hc, hp, -, hv⟩ := hT.2 (W - 1 - d) (by omega)
    refine rmS_z (fun z => ?_)
    rw [hv] at z
    exact (ev_keep hA hT (fun _ _ _ => trivial) (fun _ _ _ => rfl) hc hp trivial).mp z (hK c p hc hp)
/-- how many rows the table of the places S has -/
theorem TbS_count {N1 : Nat → Int32} {V1 : Nat} {S : Nat → Nat → Prop} {vx1 : Nat → Nat → Nat} {b : Nat → Nat → Nat} (hd : ∀ c, c < 12 → dcr (mo c) (P c)) (hm : ∀ c p, c < 12 → p < P c → mo c p < 1000) (hT : TbS N1 V1 S P mo va vx1) (hb : ∀ c p, c < 12 → p < P c → (S c p → b c p = 1) ∧ (¬ S c p → b c p = 0)) : V1 = cn (fun c => cn (fun p => b c p) (P c)) 12 := by
  have h1 : cn (fun v => cn (fun c => cn (fun p => if b c p = 1 ∧ vx1 c p = v then 1 else 0) (P c)) 12) V1 = cn (fun _ => 1) V1 := by
    refine cn_congr (fun v hv => ?_)
    obtain ⟨c, p, hc, hp, hs, e⟩ := hT.2 v hv
    have hbs : ∀ c' p', c' < 12 → p' < P c' → b c' p' = 1 → S c' p' := fun c' p' x y z => Classical.byContradiction (fun w => by have := (hb c' p' x y).2 w; omega)
    rw [rm_one hc (fun c' hc' hne => rm_zero (fun p' hp' => if_neg (fun z => hne (TbS_inj hT hd hm hc' hp' (hbs _ _ hc' hp' z.1) hc hp hs (by rw [z.2, e])).1))),
      rm_one hp (fun p' hp' hne => if_neg (fun z => hne (TbS_inj hT hd hm hc hp' (hbs _ _ hc hp' z.1) hc hp hs (by rw [z.2, e])).2)), if_pos ⟨(hb c p hc hp).1 hs, e.symm⟩]
  rw [rm_const, Nat.mul_one] at h1
  rw [← h1, rm_swap]
  refine cn_congr (fun c hc => ?_)
  rw [rm_swap]
  refine cn_congr (fun p hp => ?_)
  by_cases q : S c p
  · have hbp := (hb c p hc hp).1 q
    rw [rm_one (hT.1 c p hc hp q).1 (fun v _ hne => if_neg (fun z => hne z.2.symm)), if_pos ⟨hbp, rfl⟩, hbp]
  · have hbp := (hb c p hc hp).2 q
    rw [hbp]
    exact rm_zero (fun v _ => if_neg (fun z => by omega))
end RMV
end
section
/-! The relation of a state of the class and the reference's row of numbers; what both tell. -/
def opn (N : Nat → Int32) (n : Nat) : Nat := cn (fun r => if N (9 + 20 * r + 2) = 0 then 1 else 0) n
def SCR (s : Nat → Int32) (N : Nat → Int32) (n k W : Nat) : Prop := s 3 = nI k ∧ s 4 = N 1 ∧ s 5 = N 4 ∧ s 6 = nI n ∧ N 2 = nI n ∧ s 7 = nI k ∧ N 6 = nI k ∧ s 8 = N 3 ∧ s 9 = N 7 ∧ (N 7 = 0 ∨ N 7 = nI 1) ∧ N 8 = nI W ∧ N 5 = sm (fun r => N (9 + 20 * r + 7)) n
/-- a reader's rows -/
def RRR (row wr : Nat → Int32) (N : Nat → Int32) (r : Nat) : Prop := row 1 = N (9 + 20 * r + 2) ∧ row 2 = N (9 + 20 * r + 0) ∧ row 3 = N (9 + 20 * r + 1) ∧ row 4 = N (9 + 20 * r + 3) ∧ row 5 = N (9 + 20 * r + 4) ∧ row 6 = N (9 + 20 * r + 5) ∧ row 7 = N (9 + 20 * r + 7) ∧ row 8 = N (9 + 20 * r + 6) ∧ (N (9 + 20 * r + 6) = 0 ∨ N (9 + 20 * r + 6) = nI 1) ∧ sml (N (9 + 20 * r + 4)) 12 ∧ (∃ t, t ≤ 20 ∧ N (9 + 20 * r + 5) = nI t) ∧ ∀ c, c < 12 → hw (N (9 + 20 * r + 4)) c → wr c = N (9 + 20 * r + (8 + c))
/-- a commit's row -/
def CMR (row : Nat → Int32) (N : Nat → Int32) (q : Nat) : Prop := (∀ f, f < 5 → row f = N (1001 + 5 * q + f)) ∧ row 5 = nI (cn (swM N q) q) ∧ N (1001 + 5 * q + 2) = nI (q + 1) ∧ ∃ m, m ≤ q ∧ N (1001 + 5 * q + 1) = nI m
def CLR (pc : Nat → Int32) (mm : Nat → Nat → Int32) (P : Nat → Nat) (mo : Nat → Nat → Nat) : Prop := ∀ c, c < 12 → pc c = nI (P c) ∧ ∀ p, p < P c → mm c p = nI (mo c p)
/-- before what is unseen is removed -/
def Cur0 (G : Nat → Nat → Int32) (j : Nat) (N : Nat → Int32) (n k W : Nat) (P : Nat → Nat) (mo : Nat → Nat → Nat) (ow : Nat → Nat) (vx : Nat → Nat → Nat) : Prop :=
  SCR (G (sB j)) N n k W ∧ (∀ r, r < n → RRR (G (rN j r)) (G (rW j r)) N r) ∧ (∀ q, q < k → CMR (G (mC j q)) N q) ∧ CLR (fun c => G (cB j c) 2) (fun c => G (cM j c)) P mo ∧ ABS N n k P mo ow ∧ TbS N W (fun _ _ => True) P mo (fun c => G (cV j c)) vx
section TOLD
variable {G : Nat → Nat → Int32} {j : Nat} {N : Nat → Int32} {n k W : Nat} {P : Nat → Nat} {mo : Nat → Nat → Nat} {ow : Nat → Nat} {vx : Nat → Nat → Nat}
theorem cu_sc (h : Cur0 G j N n k W P mo ow vx) : SCR (G (sB j)) N n k W := h.1
theorem cu_rd (h : Cur0 G j N n k W P mo ow vx) {r : Nat} (hr : r < n) : RRR (G (rN j r)) (G (rW j r)) N r := h.2.1 r hr
theorem cu_cm (h : Cur0 G j N n k W P mo ow vx) {q : Nat} (hq : q < k) : CMR (G (mC j q)) N q := h.2.2.1 q hq
theorem cu_cl (h : Cur0 G j N n k W P mo ow vx) {c : Nat} (hc : c < 12) : G (cB j c) 2 = nI (P c) ∧ ∀ p, p < P c → G (cM j c) p = nI (mo c p) := h.2.2.2.1 c hc
theorem cu_ab (h : Cur0 G j N n k W P mo ow vx) : ABS N n k P mo ow := h.2.2.2.2.1
theorem cu_tb (h : Cur0 G j N n k W P mo ow vx) : TbS N W (fun _ _ => True) P mo (fun c => G (cV j c)) vx := h.2.2.2.2.2
theorem cu_hp (h : Cur0 G j N n k W P mo ow vx) : ∀ c, c < 12 → G (cB j c) 2 = nI (P c) ∧ 1 ≤ P c ∧ P c ≤ 10 := fun c hc => ⟨(cu_cl h hc).1, ((cu_ab h).1 c hc).1, ((cu_ab h).1 c hc).2.1⟩
theorem cu_m (h : Cur0 G j N n k W P mo ow vx) : ∀ c p, c < 12 → p < P c → mo c p < 1000 := fun c p hc hp => by have := ABS_m (cu_ab h) hc hp; have := (cu_ab h).2.2.1; omega
theorem cu_d (h : Cur0 G j N n k W P mo ow vx) : ∀ c, c < 12 → dcr (mo c) (P c) := fun c hc => ((cu_ab h).1 c hc).2.2.2
theorem cu_in (h : Cur0 G j N n k W P mo ow vx) {c p c' p' : Nat} (hc : c < 12) (hp : p < P c) (hc' : c' < 12) (hp' : p' < P c') (e : vx c p = vx c' p') : c = c' ∧ p = p' := TbS_inj (cu_tb h) (cu_d h) (cu_m h) hc hp trivial hc' hp' trivial e
/-- what the class sees -/
theorem cu_pf (h : Cur0 G j N n k W P mo ow vx) {r c : Nat} (hr : r < n) (hc : c < 12) : pf (G (cM j c)) (G (rN j r) 2) 0 (P c) = if fq (mo c) (ow r) (P c) < P c then nI (fq (mo c) (ow r) (P c)) else -1 := by
  obtain ⟨a1, a2, a3, a4, a5, a6⟩ := cu_ab h
  rw [(cu_rd h hr).2.1, (a5 r hr).1]
  exact pf_fq (cu_d h c hc) (fun p hp => ⟨(cu_cl h hc).2 p hp, cu_m h c p hc hp⟩) (by have := (a5 r hr).2; omega)
theorem cu_po (h : Cur0 G j N n k W P mo ow vx) {r c : Nat} (hr : r < n) (ho : N (9 + 20 * r + 2) = 0) (hc : c < 12) : pf (G (cM j c)) (G (rN j r) 2) 0 (P c) = nI (fq (mo c) (ow r) (P c)) ∧ fq (mo c) (ow r) (P c) < P c := by
  have hf := ABS_f (cu_ab h) hr ho hc
  exact ⟨by rw [cu_pf h hr hc, if_pos hf], hf⟩
theorem cu_P10 (h : Cur0 G j N n k W P mo ow vx) {c : Nat} (hc : c < 12) : P c ≤ 10 := ((cu_ab h).1 c hc).2.1
theorem cu_pe (h : Cur0 G j N n k W P mo ow vx) {r c p : Nat} (hr : r < n) (hc : c < 12) (hp : p < P c) : (N (9 + 20 * r + 2) = 0 ∧ pf (G (cM j c)) (G (rN j r) 2) 0 (P c) = nI p) ↔ SE N P mo ow r c p := by
  have h10 := cu_P10 h hc
  unfold SE
  constructor
  · rintro ⟨h1, h2⟩
    obtain ⟨e1, e2⟩ := cu_po h hr h1 hc
    rw [e1] at h2
    exact ⟨h1, nI_in50 (by omega) (by omega) h2⟩
  · rintro ⟨h1, h2⟩
    obtain ⟨e1, e2⟩ := cu_po h hr h1 hc
    exact ⟨h1, by rw [e1, h2]⟩
theorem cu_seer (h : Cur0 G j N n k W P mo ow vx) {c p : Nat} (hc : c < 12) (hp : p < P c) : cn (sbM N W (vx c p) (nI 1)) n = cn (fun i => if G (rN j i) 1 = 0 ∧ pf (G (cM j c)) (G (rN j i) 2) 0 (P c) = nI p then 1 else 0) n := by
  refine cn_congr (fun r hr => ?_)
  have e := ev_sees (cu_ab h) (cu_tb h) (fun _ _ _ => trivial) hr rfl rfl hc hp trivial
  have e2 := cu_pe h hr hc hp
  unfold sbM
  rw [(cu_rd h hr).1]
  by_cases q : SE N P mo ow r c p
  · rw [if_pos ⟨e.mpr q, Or.inl (by decide)⟩, if_pos (e2.mpr q)]
  · rw [if_neg (fun z => q (e.mp z.1)), if_neg (fun z => q (e2.mp z))]
theorem cu_tm (h : Cur0 G j N n k W P mo ow vx) {r : Nat} (hr : r < n) : ¬ 0 < N (9 + 20 * r + 5) ↔ N (9 + 20 * r + 5) = 0 := by
  obtain ⟨t, ht, e⟩ := (cu_rd h hr).2.2.2.2.2.2.2.2.2.2.1
  rw [e]
  rcases Nat.eq_zero_or_pos t with z | z
  · subst z; exact ⟨fun _ => rfl, fun _ => by decide⟩
  · refine ⟨fun q => absurd (nI_lt (a := 0) z (by omega)) q, fun q => absurd q (nI_ne0 z (by omega))⟩
theorem cu_payer (h : Cur0 G j N n k W P mo ow vx) {c p : Nat} (hc : c < 12) (hp : p < P c) : cn (sbM N W (vx c p) (nI 0)) n = pyF G j n c (P c) (nI p) := by
  unfold pyF
  refine cn_congr (fun r hr => ?_)
  have e := ev_sees (cu_ab h) (cu_tb h) (fun _ _ _ => trivial) hr rfl rfl hc hp trivial
  have e2 := cu_pe h hr hc hp
  have e3 := cu_tm h hr
  unfold sbM
  rw [(cu_rd h hr).1, (cu_rd h hr).2.2.2.2.2.1]
  by_cases q : SE N P mo ow r c p
  · by_cases t : N (9 + 20 * r + 5) = 0
    · rw [if_pos ⟨e.mpr q, Or.inr (e3.mpr t)⟩, if_pos ⟨⟨q.1, t⟩, (e2.mpr q).2⟩]
    · rw [if_neg (fun z => z.2.elim (fun w => w rfl) (fun w => t (e3.mp w))), if_neg (fun z => t z.1.2)]
  · rw [if_neg (fun z => q (e.mp z.1)), if_neg (fun z => q (e2.mp ⟨z.1.1, z.2⟩))]
theorem cu_rent (h : Cur0 G j N n k W P mo ow vx) {c p : Nat} (hc : c < 12) (hp : p < P c) : shF G j n c (P c) (nI p) = if p = 0 then 0 else reM N W n (vx c p) := by
  have h10 := cu_P10 h hc
  unfold shF reM
  by_cases z : p = 0
  · rw [if_pos z, z, if_pos (by decide)]
  · rw [if_neg z, if_neg (nI_nle (by omega) (by omega)), cu_payer h hc hp, (cu_sc h).2.2.1]
    rfl
theorem cu_due (h : Cur0 G j N n k W P mo ow vx) {r : Nat} (hr : r < n) : dueF G j n P r = dueM N W n r := by
  have e3 := cu_tm h hr
  unfold dueF dueM
  rw [(cu_rd h hr).1, (cu_rd h hr).2.2.2.2.2.1]
  by_cases ho : N (9 + 20 * r + 2) = 0 ∧ N (9 + 20 * r + 5) = 0
  · rw [if_pos ho, if_pos ⟨ho.1, e3.mpr ho.2⟩]
    have hin : ∀ c, c < 12 → fq (mo c) (ow r) (P c) < P c := fun c hc => ABS_f (cu_ab h) hr ho.1 hc
    have h1 : sm (duM N W n r) W = sm (fun v => sm (fun c => if v = vx c (fq (mo c) (ow r) (P c)) then (if fq (mo c) (ow r) (P c) = 0 then 0 else reM N W n v) else 0) 12) W := by
      refine sm_congr (fun v hv => ?_)
      obtain ⟨c, p, hc, hp, -, e⟩ := (cu_tb h).2 v hv
      rw [e]
      have q1 := ev_old (cu_ab h) (cu_tb h) (fun _ _ _ => trivial) rfl hc hp trivial
      have q2 := ev_sees (cu_ab h) (cu_tb h) (fun _ _ _ => trivial) hr rfl rfl hc hp trivial
      rw [sm_one hc (fun c' hc' hne => if_neg (fun z => hne (cu_in h hc' (hin c' hc') hc hp z.symm).1))]
      unfold duM
      by_cases z : fq (mo c) (ow r) (P c) = p
      · rw [z, if_pos rfl]
        by_cases z0 : p = 0
        · rw [if_pos z0, if_neg (fun w => q1.mp w.1 z0)]; rfl
        · rw [if_neg z0, if_pos ⟨q1.mpr z0, q2.mpr ⟨ho.1, z⟩⟩]
      · rw [if_neg (fun w => z (q2.mp w.2).2), if_neg (fun w => z (cu_in h hc hp hc (hin c hc) w).2.symm)]
        rfl
    rw [h1, sm_swap]
    refine sm_congr (fun c hc => ?_)
    rw [sm_one ((cu_tb h).1 c _ hc (hin c hc) trivial).1 (fun v _ hne => if_neg hne), if_pos rfl, (cu_po h hr ho.1 hc).1, cu_rent h hc (hin c hc)]
  · rw [if_neg ho, if_neg (fun z => ho ⟨z.1, e3.mp z.2⟩)]
    rfl
theorem cu_new (h : Cur0 G j N n k W P mo ow vx) {c : Nat} (hc : c < 12) : vA N W (nI c) (N 0) = vx c 0 := ev_new (cu_ab h) (cu_tb h) (fun _ _ _ => trivial) rfl hc
theorem cu_va (h : Cur0 G j N n k W P mo ow vx) {r c : Nat} (hr : r < n) (ho : N (9 + 20 * r + 2) = 0) (hc : c < 12) : vA N W (nI c) (N (9 + 20 * r + 0)) = vx c (fq (mo c) (ow r) (P c)) := ev_see (cu_ab h) (cu_tb h) (fun _ _ _ => trivial) hr ho hc
theorem cu_row (h : Cur0 G j N n k W P mo ow vx) {c p : Nat} (hc : c < 12) (hp : p < P c) : N (809 + 3 * vx c p + 0) = nI c ∧ N (809 + 3 * vx c p + 1) = G (cM j c) p ∧ N (809 + 3 * vx c p + 2) = G (cV j c) p := by
  obtain ⟨-, a, b, d⟩ := (cu_tb h).1 c p hc hp trivial
  exact ⟨a, by rw [b, (cu_cl h hc).2 p hp], d⟩
theorem cu_1 (h : Cur0 G j N n k W P mo ow vx) {c : Nat} (hc : c < 12) : 0 < P c := ((cu_ab h).1 c hc).1
theorem cu_olds (h : Cur0 G j N n k W P mo ow vx) {r : Nat} (hr : r < n) (ho : N (9 + 20 * r + 2) = 0) : sm (snM N W r (nI 1)) 12 = nI (cn (fun c => if 0 < pf (G (cM j c)) (G (rN j r) 2) 0 (P c) then 1 else 0) 12) := by
  rw [← rm_nI]
  refine sm_congr (fun c hc => ?_)
  obtain ⟨e1, e2⟩ := cu_po h hr ho hc
  have h10 := cu_P10 h hc
  unfold snM
  rw [if_neg (by decide), cu_va h hr ho hc, e1]
  have q1 := ev_old (cu_ab h) (cu_tb h) (fun _ _ _ => trivial) rfl hc e2 trivial
  by_cases z : fq (mo c) (ow r) (P c) = 0
  · rw [if_neg (fun w => q1.mp w z), z, if_neg (by decide)]
  · rw [if_pos (q1.mpr z), if_pos (show (0 : Int32) < nI (fq (mo c) (ow r) (P c)) from nI_lt (a := 0) (by omega) (by omega))]
theorem cu_sum (h : Cur0 G j N n k W P mo ow vx) {r : Nat} (hr : r < n) (ho : N (9 + 20 * r + 2) = 0) : sm (snM N W r (nI 0)) 12 = sm (fun c => vsF (G (cV j c)) (G (cM j c)) (G (rN j r) 2) (P c)) 12 := by
  refine sm_congr (fun c hc => ?_)
  obtain ⟨e1, e2⟩ := cu_po h hr ho hc
  have h10 := cu_P10 h hc
  unfold snM
  rw [if_pos nI_0, cu_va h hr ho hc, (cu_row h hc e2).2.2, vsF_at e1 (by omega)]
theorem cu_conf (h : Cur0 G j N n k W P mo ow vx) {r : Nat} (hr : r < n) : cn (cfM N W r) 12 = cn (cfF G j r) 12 := by
  refine cn_congr (fun c hc => ?_)
  unfold cfM cfF
  rw [cu_new h hc, (cu_row h hc (cu_1 h hc)).2.1, (cu_rd h hr).2.1, (cu_rd h hr).2.2.2.2.1]
theorem cu_skew (h : Cur0 G j N n k W P mo ow vx) (hk4 : k ≤ 40) {r : Nat} (hr : r < n) : cn (ssM N r) k = cn (fun q => if skF (G (mC j q)) (G (rN j r)) then 1 else 0) k := by
  refine cn_congr (fun q hq => ?_)
  obtain ⟨c1, c2, c3, m, c4, c5⟩ := cu_cm h hq
  obtain ⟨r1, r2, r3, r4, r5, -⟩ := cu_rd h hr
  unfold ssM skF
  rw [← c1 2 (by omega), ← c1 3 (by omega), ← c1 4 (by omega), r2, r4, r5, (cu_ab h).2.1, nI_add, c5]
  have hlt : nI m < nI (k + 1) := nI_lt (by omega) (by omega)
  have hc := Int32.and_comm (G (mC j q) 3) (N (9 + 20 * r + 4))
  unfold skM
  rw [hc]
  by_cases z : N (9 + 20 * r + 0) < G (mC j q) 2 ∧ ¬ N (9 + 20 * r + 3) &&& G (mC j q) 3 = 0 ∧ ¬ G (mC j q) 4 &&& N (9 + 20 * r + 4) = 0 ∧ N (9 + 20 * r + 4) &&& G (mC j q) 3 = 0
  · rw [if_pos z, if_pos ⟨⟨z.1, hlt⟩, z.2.1, z.2.2.1, z.2.2.2⟩]
  · rw [if_neg z, if_neg (fun w => z ⟨w.1.1, w.2.1, w.2.2.1, w.2.2.2⟩)]
theorem cu_pairs (h : Cur0 G j N n k W P mo ow vx) : sm (fun q => G (mC j q) 5) k = nI (cn (fun q => cn (swM N q) q) k) := by
  rw [← rm_nI]
  exact sm_congr (fun q hq => (cu_cm h hq).2.1)
theorem cu_W (h : Cur0 G j N n k W P mo ow vx) : W = cn P 12 := by
  have := TbS_count (cu_d h) (cu_m h) (cu_tb h) (b := fun _ _ => 1) (fun c p _ _ => ⟨fun _ => rfl, fun z => absurd trivial z⟩)
  rw [this]
  exact cn_congr (fun c _ => by rw [rm_const, Nat.mul_one])
theorem cu_oldm (h : Cur0 G j N n k W P mo ow vx) : nI W - nI 12 = nI (cn (fun c => P c - 1) 12) := by
  have e : cn P 12 = cn (fun c => P c - 1) 12 + 12 := by
    have h2 : cn (fun c => (P c - 1) + 1) 12 = cn P 12 := cn_congr (fun c hc => by have := cu_1 h hc; omega)
    rw [← h2, rm_add, rm_const]
  rw [cu_W h, e, pk_sub (by omega), Nat.add_sub_cancel]
theorem cu_vers (h : Cur0 G j N n k W P mo ow vx) {c : Nat} (hc : c < 12) : cn (fun v => if N (809 + 3 * v + 0) = nI c then 1 else 0) W = P c := by
  have h1 : cn (fun v => if N (809 + 3 * v + 0) = nI c then 1 else 0) W = cn (fun v => cn (fun p => if vx c p = v then 1 else 0) (P c)) W := by
    refine cn_congr (fun v hv => ?_)
    obtain ⟨c', p', hc', hp', -, e⟩ := (cu_tb h).2 v hv
    rw [e, (cu_row h hc' hp').1]
    by_cases z : c' = c
    · subst z
      rw [if_pos rfl, rm_one hp' (fun p hp hne => if_neg (fun w => hne (cu_in h hc hp hc' hp' w).2)), if_pos rfl]
    · rw [if_neg (fun w => z (nI_in50 (by omega) (by omega) w)), rm_zero (fun p hp => if_neg (fun w => z (cu_in h hc hp hc' hp' w).1.symm))]
  rw [h1, rm_swap]
  have h2 : cn (fun p => cn (fun v => if vx c p = v then 1 else 0) W) (P c) = cn (fun _ => 1) (P c) := cn_congr (fun p hp => by
    rw [rm_one ((cu_tb h).1 c p hc hp trivial).1 (fun v _ hne => if_neg (fun z => hne z.symm)), if_pos rfl])
  rw [h2, rm_const, Nat.mul_one]
theorem cu_vw (h : Cur0 G j N n k W P mo ow vx) {c : Nat} (hc : c < 12) : ∀ p, p < P c → vwF N W c p = vx c p := by
  intro p
  induction p with
  | zero => intro _; exact cu_new h hc
  | succ p ih =>
    intro hp
    have hd := cu_d h c hc
    have h1 := hd p (p + 1) (by omega) hp
    have hm := cu_m h c p hc (by omega)
    rw [vwF, ih (by omega), (cu_row h hc (by omega)).2.1, (cu_cl h hc).2 p (by omega), pk_sub (by omega)]
    refine TbS_va (cu_tb h) (cu_d h) (cu_m h) (by omega) hc hp trivial (by omega) (fun q hq _ hle => ?_)
    rcases Nat.lt_or_ge (p + 1) q with z | z
    · exact Nat.le_of_lt (hd _ _ z hq)
    · rcases Nat.lt_or_ge q (p + 1) with w | w
      · rcases Nat.lt_or_ge q p with u | u
        · have := hd q p u (by omega); omega
        · rw [show q = p by omega] at hle; omega
      · rw [show q = p + 1 by omega]; exact Nat.le_refl _
end TOLD
end
section
/-! The questions: the same answers. -/
theorem ite_cg {α : Type} {p q : Prop} {hp : Decidable p} {hq : Decidable q} {a b c d : α} (h : p ↔ q) (h1 : a = c) (h2 : b = d) : (@ite α p hp a b) = @ite α q hq c d := by
  subst h1; subst h2
  by_cases z : p
  · rw [if_pos z, if_pos (h.mp z)]
  · rw [if_neg z, if_neg (fun w => z (h.mpr w))]
section ANS
variable {G : Nat → Nat → Int32} {N : Nat → Int32} {n k W : Nat} {P : Nat → Nat} {mo : Nat → Nat → Nat} {ow : Nat → Nat} {vx : Nat → Nat → Nat}
theorem an_writers (h : Cur0 G 0 N n k W P mo ow vx) (c : Nat) : cn (fun i => if G (rN 0 i) 1 = 0 ∧ hw (G (rN 0 i) 5) c then 1 else 0) n = cn (fun r => if N (9 + 20 * r + 2) = 0 ∧ hw (N (9 + 20 * r + 4)) c then 1 else 0) n := cn_congr (fun r hr => by
  obtain ⟨r1, r2, r3, r4, r5, -⟩ := cu_rd h hr
  rw [r1, r5])
theorem an_states (h : Cur0 G 0 N n k W P mo ow vx) (w : Int32) : cn (fun i => if G (rN 0 i) 1 = w then 1 else 0) n = cn (fun r => if N (9 + 20 * r + 2) = w then 1 else 0) n := cn_congr (fun r hr => by rw [(cu_rd h hr).1])
theorem an_widows (h : Cur0 G 0 N n k W P mo ow vx) : cn (fun i => if G (rN 0 i) 1 = 0 ∧ 0 < G (rN 0 i) 6 then 1 else 0) n = cn (fun r => if N (9 + 20 * r + 2) = 0 ∧ 0 < N (9 + 20 * r + 5) then 1 else 0) n := cn_congr (fun r hr => by
  rw [(cu_rd h hr).1, (cu_rd h hr).2.2.2.2.2.1])
theorem an_cell (h : Cur0 G 0 N n k W P mo ow vx) {c : Nat} (hc : c < 12) (y : Int32) : clC G n P c y = clM N W n c y := by
  have h1 := cu_1 h hc
  unfold clC clM
  rw [cu_new h hc, (cu_row h hc h1).2.1, (cu_row h hc h1).2.2, cu_seer h hc h1, cu_vers h hc, an_writers h c]
theorem an_reader (h : Cur0 G 0 N n k W P mo ow vx) (hk4 : k ≤ 40) {r : Nat} (hr : r < n) (y : Int32) : rdC G n k P r y = rdM N W n k r y := by
  obtain ⟨r1, r2, r3, r4, r5, r6, r7, -⟩ := cu_rd h hr
  unfold rdC rdM
  rw [cu_due h hr, cu_conf h hr, ← cu_skew h hk4 hr, r1, r2, r3, r4, r5, r6, r7]
  rw [← r2]
  by_cases ho : N (9 + 20 * r + 2) = 0
  · rw [cu_olds h hr ho, cu_sum h hr ho]
  · simp only [if_neg ho]
theorem an_version (h : Cur0 G 0 N n k W P mo ow vx) {c q : Nat} (hc : c < 12) (hq : q < P c) (y : Int32) : vrC G n c (P c) (nI q) y = vrM N W n (vwF N W c q) (nI q) y := by
  have h10 := cu_P10 h hc
  unfold vrC vrM
  rw [cu_vw h hc q hq, (cu_row h hc hq).2.1, (cu_row h hc hq).2.2, cu_seer h hc hq, cu_payer h hc hq, cu_rent h hc hq, nI_clamp (by omega)]
  have e : (nI q = 0) ↔ q = 0 := by rw [← nI_0]; exact nI_eq (by omega) (by omega)
  have e2 : (if q = 0 then 0 else reM N W n (vx c q)) = (if nI q = 0 then nI 0 else reM N W n (vx c q)) := ite_cg e.symm rfl rfl
  rw [e2]
  rfl
theorem an_committed (h : Cur0 G 0 N n k W P mo ow vx) {q : Nat} (hq : q < k) (y : Int32) : cmW (G (mC 0 q)) y = (if nI 0 ≤ y ∧ y ≤ nI 5 then (if y = nI 5 then nI (cn (swM N q) q) else N (1001 + 5 * q + y.toNatClampNeg)) else -2) := by
  obtain ⟨c1, c2, -⟩ := cu_cm h hq
  unfold cmW
  by_cases z : nI 0 ≤ y ∧ y ≤ nI 5
  · rw [if_pos z]
    obtain ⟨t, t1, rfl⟩ := nI_of2 (x := y) (M := nI 5) (n := 5) rfl (Int32.not_lt.mpr z.1) z.2
    rw [nI_clamp (by omega)]
    rcases (show t = 0 ∨ t = 1 ∨ t = 2 ∨ t = 3 ∨ t = 4 ∨ t = 5 by omega) with rfl | rfl | rfl | rfl | rfl | rfl
    · rw [if_pos rfl, if_neg (by decide), c1 0 (by omega)]
    · rw [if_neg (by decide), if_pos rfl, if_neg (by decide), c1 1 (by omega)]
    · rw [if_neg (by decide), if_neg (by decide), if_pos rfl, if_neg (by decide), c1 2 (by omega)]
    · rw [if_neg (by decide), if_neg (by decide), if_neg (by decide), if_pos rfl, if_neg (by decide), c1 3 (by omega)]
    · rw [if_neg (by decide), if_neg (by decide), if_neg (by decide), if_neg (by decide), if_pos rfl, if_neg (by decide), c1 4 (by omega)]
    · rw [if_neg (by decide), if_neg (by decide), if_neg (by decide), if_neg (by decide), if_neg (by decide), if_pos rfl, if_pos rfl, c2]
  · rw [if_neg z]
    have hne : ∀ t, t ≤ 5 → y ≠ nI t := fun t ht e => z ⟨by rw [e]; exact nI_le (by omega) (by omega), by rw [e]; exact nI_le ht (by omega)⟩
    rw [if_neg (hne 0 (by omega)), if_neg (hne 1 (by omega)), if_neg (hne 2 (by omega)), if_neg (hne 3 (by omega)), if_neg (hne 4 (by omega)), if_neg (hne 5 (by omega))]
theorem an_count (h : Cur0 G 0 (G 1) n k W P mo ow vx) (h8 : G 8 1 = G 0 2) (h10 : G 10 1 = G 0 5) (y : Int32) : ctC G n k P y = ctM G W n k y := by
  obtain ⟨s1, s2, s3, s4, s5, s6, s7, s8, s9, s10, s11, s12⟩ := cu_sc h
  have e7 : (if G (sB 0) 9 = 0 then nI 0 else nI 1) = G 1 7 := by
    rw [s9]
    rcases s10 with z | z
    · rw [if_pos z, z]; rfl
    · rw [if_neg (by rw [z]; decide), z]
  have e5 : sm (fun i => G (rN 0 i) 7) n = G 1 5 := by
    rw [s12]
    exact sm_congr (fun r hr => (cu_rd h hr).2.2.2.2.2.2.1)
  unfold ctC ctM
  rw [e7, e5, cu_pairs h, ← cu_oldm h, an_states h, an_states h, an_states h, an_states h, an_widows h, s1, s2, s3, s4, s5, s6, s7, s8, (cu_ab h).2.1, h8, h10]
theorem an_ones {x : Int32} (h : sml x 12) : bcF x = sm (fun k => x >>> (nI k &&& 31) &&& nI 1) 12 := bc_ones h
end ANS
end
section
/-! What removing unseen versions does to the relation. -/
section SNB
variable {G : Nat → Nat → Int32} {j : Nat} {N : Nat → Int32} {n k W : Nat} {P : Nat → Nat} {mo : Nat → Nat → Nat} {ow : Nat → Nat} {vx : Nat → Nat → Nat}
theorem bi_one (h : Cur0 G j N n k W P mo ow vx) {q : Int32} {i c p : Nat} (hi : i < n) (hc : c < 12) (hp : p < 32) : hw (psB G j c (P c) q i) p ↔ ¬ nI i = q ∧ SE N P mo ow i c p := by
  have h10 := cu_P10 h hc
  unfold psB
  rw [(cu_rd h hi).1]
  by_cases ho : N (9 + 20 * i + 2) = 0
  · obtain ⟨e1, e2⟩ := cu_po h hi ho hc
    rw [e1]
    by_cases hq : nI i = q
    · rw [if_neg (fun z => z.1 hq)]
      exact ⟨fun z => absurd z (hw_0 (by omega)), fun z => absurd hq z.1⟩
    · rw [if_pos ⟨hq, ho, nI_m1 (by omega)⟩]
      refine (hb_bt (fq (mo c) (ow i) (P c)) p (by omega) (by omega)).trans ?_
      exact ⟨fun z => ⟨hq, ho, z⟩, fun z => z.2.2⟩
  · rw [if_neg (fun z => ho z.2.1)]
    exact ⟨fun z => absurd z (hw_0 (by omega)), fun z => absurd z.2.1 ho⟩
theorem bi_sml (h : Cur0 G j N n k W P mo ow vx) {q : Int32} {i c : Nat} (hi : i < n) (hc : c < 12) : sml (psB G j c (P c) q i) 10 := by
  have h10 := cu_P10 h hc
  unfold psB
  rw [(cu_rd h hi).1]
  by_cases z : ¬ nI i = q ∧ N (9 + 20 * i + 2) = 0 ∧ ¬ pf (G (cM j c)) (G (rN j i) 2) 0 (P c) = -1
  · obtain ⟨e1, e2⟩ := cu_po h hi z.2.1 hc
    rw [if_pos z, e1]
    exact sml_bt (q := fq (mo c) (ow i) (P c)) (by omega) (by omega)
  · rw [if_neg z]; exact sml_0 10
/-- the bits of the places that are seen, one reader left aside -/
theorem bi_so (h : Cur0 G j N n k W P mo ow vx) {q : Int32} {c p : Nat} (hc : c < 12) (hp : p < 32) : hw (so (psB G j c (P c) q) n) p ↔ ∃ i, i < n ∧ ¬ nI i = q ∧ SE N P mo ow i c p := by
  have h10 := cu_P10 h hc
  rw [hb_so (by omega)]
  exact ⟨fun ⟨i, a, b⟩ => ⟨i, a, (bi_one h a hc hp).mp b⟩, fun ⟨i, a, b⟩ => ⟨i, a, (bi_one h a hc hp).mpr b⟩⟩
theorem bi_sn (h : Cur0 G j N n k W P mo ow vx) {c p : Nat} (hc : c < 12) (hp : p < P c) : hw (snF G j n P c) p ↔ ∃ i, i < n ∧ SE N P mo ow i c p := by
  have hn := (cu_ab h).2.2.2.1
  have h10 := cu_P10 h hc
  rw [snF, bi_so h hc (by omega)]
  exact ⟨fun ⟨i, a, _, b⟩ => ⟨i, a, b⟩, fun ⟨i, a, b⟩ => ⟨i, a, nI_m1 (by omega), b⟩⟩
end SNB
theorem cn_hit {f : Nat → Nat} {n t : Nat} (hf : ∀ i, f i ≤ 1) (h : t < cn f n) : ∃ i, i < n ∧ f i = 1 ∧ cn f i = t := by
  induction n with
  | zero => exact absurd h (Nat.not_lt_zero t)
  | succ n ih =>
    rw [cn] at h
    rcases Nat.lt_or_ge t (cn f n) with q | q
    · obtain ⟨i, a, b, c⟩ := ih q
      exact ⟨i, by omega, b, c⟩
    · have := hf n
      exact ⟨n, by omega, by omega, by omega⟩
/-- a kept place's new number -/
def np (w : Int32) (p : Nat) : Nat := if p = 0 then 0 else 1 + cn (rf w) p
def kp2 (w : Int32) (p : Nat) : Prop := p = 0 ∨ hw w p
theorem np_lt {w : Int32} {p q : Nat} (hp : kp2 w p) (h : p < q) : np w p < np w q := by
  unfold np
  rw [if_neg (show ¬ q = 0 by omega)]
  by_cases z : p = 0
  · rw [if_pos z]; omega
  · rw [if_neg z]
    have := rf_lt (i := q) (by omega) h (hp.elim (fun w => absurd w z) id)
    omega
theorem np_P {w : Int32} {p P : Nat} (hp : kp2 w p) (h : p < P) : np w p < 1 + cn (rf w) P := by
  have := np_lt hp h
  unfold np at this ⊢
  rw [if_neg (show ¬ P = 0 by omega)] at this
  exact this
theorem np_on {w : Int32} {P t : Nat} (hP : 1 ≤ P) (h : t < 1 + cn (rf w) P) : ∃ p, p < P ∧ kp2 w p ∧ np w p = t := by
  rcases Nat.eq_zero_or_pos t with z | z
  · exact ⟨0, by omega, Or.inl rfl, by rw [z]; rfl⟩
  · obtain ⟨i, a, b, c⟩ := cn_hit (f := rf w) (t := t - 1) (fun i => by unfold rf; split <;> omega) (show t - 1 < cn (rf w) P by omega)
    unfold rf at b
    have hh : 1 ≤ i ∧ hw w i := Classical.byContradiction (fun q => by rw [if_neg q] at b; omega)
    exact ⟨i, a, Or.inr hh.2, by unfold np; rw [if_neg (by omega), c]; omega⟩
theorem np_mono {w : Int32} {p q : Nat} (hp : kp2 w p) (hq : kp2 w q) : np w p < np w q ↔ p < q := by
  constructor
  · intro h
    rcases Nat.lt_trichotomy p q with z | z | z
    · exact z
    · rw [z] at h; omega
    · have := np_lt hq z; omega
  · exact np_lt hp
theorem np_inj {w : Int32} {p q : Nat} (hp : kp2 w p) (hq : kp2 w q) (h : np w p = np w q) : p = q := by
  have := np_mono hp hq
  have := np_mono hq hp
  omega
theorem np_le {w : Int32} (p : Nat) : np w p ≤ p := by
  unfold np
  split
  · omega
  · have := rf_le w p; omega
section RVA
variable {G G' : Nat → Nat → Int32} {j : Nat} {N : Nat → Int32} {n k W : Nat} {P : Nat → Nat} {mo : Nat → Nat → Nat} {ow : Nat → Nat} {vx : Nat → Nat → Nat}
theorem swM_con2 {N M : Nat → Int32} {q t : Nat} (h : ∀ f, 1001 ≤ f → f < 1001 + 5 * (q + 1) → M f = N f) (ht : t ≤ q) : cn (swM M q) t = cn (swM N q) t := by
  refine cn_congr (fun c hc => ?_)
  unfold swM
  rw [h _ (by omega) (by omega), h _ (by omega) (by omega), h _ (by omega) (by omega), h _ (by omega) (by omega), h _ (by omega) (by omega), h _ (by omega) (by omega), h _ (by omega) (by omega), h _ (by omega) (by omega)]
theorem CMR_con2 {row row' : Nat → Int32} {N M : Nat → Int32} {q : Nat} (h : ∀ f, 1001 ≤ f → f < 1001 + 5 * (q + 1) → M f = N f) (hr : row' = row) (hc : CMR row N q) : CMR row' M q := by
  obtain ⟨a, b, c, m, d, e⟩ := hc
  subst hr
  exact ⟨fun f hf => by rw [h _ (by omega) (by omega)]; exact a f hf, by rw [swM_con2 h (Nat.le_refl q)]; exact b, by rw [h _ (by omega) (by omega)]; exact c, m, d, by rw [h _ (by omega) (by omega)]; exact e⟩
theorem CMR_congr {row : Nat → Int32} {N M : Nat → Int32} {q : Nat} (h : ∀ f, 1001 ≤ f → f < 1201 → M f = N f) (hq : q < 40) (hc : CMR row N q) : CMR row M q := CMR_con2 (fun f f1 f2 => h f f1 (by omega)) rfl hc
theorem RRR_congr {row wr row' wr' : Nat → Int32} {N M : Nat → Int32} {r : Nat} (h : ∀ f, f < 20 → M (9 + 20 * r + f) = N (9 + 20 * r + f)) (hr : row' = row) (hw : wr' = wr) (hc : RRR row wr N r) : RRR row' wr' M r := by
  unfold RRR at hc ⊢
  rw [hr, hw, h 0 (by omega), h 1 (by omega), h 2 (by omega), h 3 (by omega), h 4 (by omega), h 5 (by omega), h 6 (by omega), h 7 (by omega)]
  obtain ⟨c1, c2, c3, c4, c5, c6, c7, c8, c9, c10, c11, c12⟩ := hc
  exact ⟨c1, c2, c3, c4, c5, c6, c7, c8, c9, c10, c11, fun c hc hh => by rw [h (8 + c) (by omega)]; exact c12 c hc hh⟩
set_option maxHeartbeats 1000000 in
theorem rv_all (h : Cur0 G j N n k W P mo ow vx) (hW : W ≤ 64) (hk4 : k ≤ 40) {v : Int32} (hr : ruR G G' j n P v) : ∃ P' mo' vx', Cur0 G' j (rmN N n W) n k (rmD N n W W).2.1 P' mo' ow vx' ∧ (∀ c p, c < 12 → p < P' c → KP (rmN N n W) n P' mo' ow c p) ∧ v = nI (rmD N n W W).2.2 ∧ (∀ f, f ≠ 8 → f ≠ 3 → f < 809 ∨ 1001 ≤ f → rmN N n W f = N f) ∧ (rmD N n W W).2.1 ≤ W := by
  obtain ⟨v1, v2, v3, v4, v5⟩ := hr
  obtain ⟨vx1, t1, t2, t3, t4⟩ := rm_all (cu_ab h) (cu_tb h) hW
  have hA := cu_ab h
  have hn4 := hA.2.2.2.1
  have hsc := cu_sc h
  have hW1 : 1 ≤ W := by
    have := ((cu_tb h).1 0 0 (by omega) (cu_1 h (by omega)) trivial).1
    omega
  have h8 := rmN_8 hsc.2.2.2.2.2.2.2.2.2.2.1 hsc.2.2.2.2.1 hW1
  -- the bits and what is kept
  have hbit : ∀ c p, c < 12 → p < P c → (hw (snF G j n P c) p ↔ ∃ i, i < n ∧ SE N P mo ow i c p) := fun c p hc hp => bi_sn h hc hp
  have hkp : ∀ c p, c < 12 → p < P c → (kp2 (snF G j n P c) p ↔ KP N n P mo ow c p) := fun c p hc hp => by
    unfold kp2 KP
    rw [hbit c p hc hp]
  obtain ⟨P', eP⟩ : ∃ P' : Nat → Nat, ∀ c, P' c = 1 + cn (rf (snF G j n P c)) (P c) := ⟨_, fun _ => rfl⟩
  obtain ⟨mo', em⟩ : ∃ mo' : Nat → Nat → Nat, ∀ c p, mo' c p = (G' (cM j c) p).toNatClampNeg := ⟨_, fun _ _ => rfl⟩
  have hnew : ∀ c p, c < 12 → p < P c → kp2 (snF G j n P c) p → G' (cM j c) (np (snF G j n P c) p) = nI (mo c p) ∧ G' (cV j c) (np (snF G j n P c) p) = G (cV j c) p := by
    intro c p hc hp hk
    obtain ⟨q1, q2, q3, q4⟩ := v2 c hc
    unfold np
    by_cases z : p = 0
    · rw [if_pos z, q3, q2, z]
      exact ⟨(cu_cl h hc).2 0 (cu_1 h hc), rfl⟩
    · rw [if_neg z]
      obtain ⟨a, b⟩ := q4 p (by omega) hp (hk.elim (fun w => absurd w z) id)
      exact ⟨by rw [b]; exact (cu_cl h hc).2 p hp, a⟩
  have hmo : ∀ c p, c < 12 → p < P c → kp2 (snF G j n P c) p → mo' c (np (snF G j n P c) p) = mo c p := by
    intro c p hc hp hk
    have := cu_m h c p hc hp
    rw [em, (hnew c p hc hp hk).1, nI_clamp (by omega)]
  have hon : ∀ c t, c < 12 → t < P' c → ∃ p, p < P c ∧ kp2 (snF G j n P c) p ∧ np (snF G j n P c) p = t := fun c t hc ht => np_on (cu_1 h hc) (by rw [← eP]; exact ht)
  have hlt : ∀ c p, c < 12 → p < P c → kp2 (snF G j n P c) p → np (snF G j n P c) p < P' c := fun c p hc hp hk => by rw [eP]; exact np_P hk hp
  have hdm : ∀ c, c < 12 → dcr (mo' c) (P' c) := by
    intro c hc a b hab hb
    obtain ⟨p, p1, p2, p3⟩ := hon c a hc (by omega)
    obtain ⟨q, q1, q2, q3⟩ := hon c b hc hb
    rw [← p3, ← q3, hmo c p hc p1 p2, hmo c q hc q1 q2]
    exact cu_d h c hc p q ((np_mono p2 q2).mp (by omega)) q1
  have hPle : ∀ c, c < 12 → P' c ≤ P c := fun c hc => by
    have := rf_le (snF G j n P c) (P c)
    have := cu_1 h hc
    rw [eP]; omega
  have hfq : ∀ r c, r < n → c < 12 → N (9 + 20 * r + 2) = 0 → kp2 (snF G j n P c) (fq (mo c) (ow r) (P c)) ∧ fq (mo' c) (ow r) (P' c) = np (snF G j n P c) (fq (mo c) (ow r) (P c)) := by
    intro r c hr hc ho
    have hin := ABS_f hA hr ho hc
    have hk : kp2 (snF G j n P c) (fq (mo c) (ow r) (P c)) := (hkp c _ hc hin).mpr (Or.inr ⟨r, hr, ho, rfl⟩)
    refine ⟨hk, fq_is (hdm c hc) (hlt c _ hc hin hk) ?_ ?_⟩
    · rw [hmo c _ hc hin hk]; exact fq_at (cu_d h c hc) hin
    · intro t ht
      obtain ⟨q, q1, q2, q3⟩ := hon c t hc (by have := hlt c _ hc hin hk; omega)
      rw [← q3, hmo c q hc q1 q2]
      rw [← q3] at ht
      exact (fq_lt (cu_d h c hc) q1).mp ((np_mono q2 hk).mp ht)
  have hst : ∀ r, r < n → ∀ f, f < 20 → rmN N n W (9 + 20 * r + f) = N (9 + 20 * r + f) := fun r hr f hf => t3 _ (by omega) (by omega) (by omega)
  have hAB : ABS (rmN N n W) n k P' mo' ow := by
    refine ⟨fun c hc => ⟨by rw [eP]; omega, Nat.le_trans (hPle c hc) (cu_P10 h hc), ?_, hdm c hc⟩, by rw [t3 0 (by omega) (by omega) (by omega)]; exact hA.2.1, hA.2.2.1, hn4, fun r hr => by rw [hst r hr 0 (by omega)]; exact hA.2.2.2.2.1 r hr, ?_⟩
    · have := hmo c 0 hc (cu_1 h hc) (Or.inl rfl)
      have e : np (snF G j n P c) 0 = 0 := rfl
      rw [e] at this
      rw [this]
      exact (hA.1 c hc).2.2.1
    · intro r hr ho c hc
      rw [hst r hr 2 (by omega)] at ho
      obtain ⟨hk, e⟩ := hfq r c hr hc ho
      have hin := ABS_f hA hr ho hc
      have hl := hlt c _ hc hin hk
      have h1 := fq_at (o := ow r) (hdm c hc) (by rw [e]; exact hl)
      rcases Nat.lt_or_ge (fq (mo' c) (ow r) (P' c)) (P' c - 1) with z | z
      · have := hdm c hc _ _ z (by omega); omega
      · have e3 : P' c - 1 = fq (mo' c) (ow r) (P' c) := by omega
        rw [e3]; exact h1
  obtain ⟨iv, hiv⟩ := Classical.axiomOfChoice (r := fun (x : Nat × Nat) (p : Nat) => x.1 < 12 → x.2 < P' x.1 → p < P x.1 ∧ kp2 (snF G j n P x.1) p ∧ np (snF G j n P x.1) p = x.2) (fun x => by
    by_cases z : x.1 < 12 ∧ x.2 < P' x.1
    · obtain ⟨p, hp⟩ := hon x.1 x.2 z.1 z.2
      exact ⟨p, fun _ _ => hp⟩
    · exact ⟨0, fun a b => absurd ⟨a, b⟩ z⟩)
  have hTB : TbS (rmN N n W) (rmD N n W W).2.1 (fun _ _ => True) P' mo' (fun c => G' (cV j c)) (fun c p => vx1 c (iv (c, p))) := by
    refine ⟨fun c t hc ht _ => ?_, fun u hu => ?_⟩
    · obtain ⟨p1, p2, p3⟩ := hiv (c, t) hc ht
      obtain ⟨g1, g2⟩ := t1.1 c _ hc p1 ((hkp c _ hc p1).mp p2)
      refine ⟨g1, ?_⟩
      have e1 := hmo c _ hc p1 p2
      have e2 := (hnew c _ hc p1 p2).2
      rw [p3] at e1 e2
      dsimp only at e1 e2 ⊢
      rw [e1, e2]
      exact g2
    · obtain ⟨c, p, hc, hp, hk, e⟩ := t1.2 u hu
      have hk2 := (hkp c p hc hp).mpr hk
      refine ⟨c, np (snF G j n P c) p, hc, hlt c p hc hp hk2, trivial, ?_⟩
      obtain ⟨p1, p2, p3⟩ := hiv (c, np (snF G j n P c) p) hc (hlt c p hc hp hk2)
      have e4 : iv (c, np (snF G j n P c) p) = p := np_inj p2 hk2 p3
      rw [e]
      show vx1 c p = vx1 c (iv (c, np (snF G j n P c) p))
      rw [e4]
  have hfr : ∀ q, q ≠ sB j → (∀ c, c < 12 → q ≠ cB j c ∧ q ≠ cV j c ∧ q ≠ cM j c) → G' q = G q := v5
  have hcnt : v = nI (rmD N n W W).2.2 := by
    have e1 := TbS_count (cu_d h) (cu_m h) (cu_tb h) (b := fun _ _ => 1) (fun c p _ _ => ⟨fun _ => rfl, fun z => absurd trivial z⟩)
    have hm' : ∀ c p, c < 12 → p < P' c → mo' c p < 1000 := fun c p hc hp => by have := ABS_m hAB hc hp; have := hAB.2.2.1; omega
    have e2 := TbS_count hdm hm' hTB (b := fun _ _ => 1) (fun c p _ _ => ⟨fun _ => rfl, fun z => absurd trivial z⟩)
    have e3 : cn (fun c => cn (fun _ => 1) (P c)) 12 = cn (fun c => P c - P' c) 12 + cn (fun c => cn (fun _ => 1) (P' c)) 12 := by
      rw [← rm_add]
      exact cn_congr (fun c hc => by rw [rm_const, rm_const]; have := hPle c hc; omega)
    have e4 : cn (fun c => P c - (1 + cn (rf (snF G j n P c)) (P c))) 12 = cn (fun c => P c - P' c) 12 := cn_congr (fun c _ => by rw [eP])
    rw [v1, e4]
    congr 1
    omega
  have hC : Cur0 G' j (rmN N n W) n k (rmD N n W W).2.1 P' mo' ow (fun c p => vx1 c (iv (c, p))) := by
    refine ⟨?_, fun r hr => ?_, fun q hq => ?_, fun c hc => ⟨?_, fun t ht => ?_⟩, hAB, hTB⟩
    · obtain ⟨s1, s2, s3, s4, s5, s6, s7, s8, s9, s10, s11, s12⟩ := hsc
      refine ⟨by rw [v3 3 (by omega)]; exact s1, by rw [v3 4 (by omega), t3 1 (by omega) (by omega) (by omega)]; exact s2, by rw [v3 5 (by omega), t3 4 (by omega) (by omega) (by omega)]; exact s3, by rw [v3 6 (by omega)]; exact s4, by rw [t3 2 (by omega) (by omega) (by omega)]; exact s5, by rw [v3 7 (by omega)]; exact s6, by rw [t3 6 (by omega) (by omega) (by omega)]; exact s7, by rw [v4, t4, s8, hcnt], by rw [v3 9 (by omega), t3 7 (by omega) (by omega) (by omega)]; exact s9, by rw [t3 7 (by omega) (by omega) (by omega)]; exact s10, h8.1, ?_⟩
      rw [t3 5 (by omega) (by omega) (by omega), s12]
      exact sm_congr (fun r hr => (hst r hr 7 (by omega)).symm)
    · refine RRR_congr (hst r hr) (hfr _ (by unfold rN sB; omega) (fun c hc => ⟨by unfold rN cB; omega, by unfold rN cV; omega, by unfold rN cM; omega⟩)) (hfr _ (by unfold rW sB; omega) (fun c hc => ⟨by unfold rW cB; omega, by unfold rW cV; omega, by unfold rW cM; omega⟩)) (cu_rd h hr)
    · rw [hfr (mC j q) (by unfold mC sB; omega) (fun c hc => ⟨by unfold mC cB; omega, by unfold mC cV; omega, by unfold mC cM; omega⟩)]
      exact CMR_congr (fun f f1 f2 => t3 f (by omega) (by omega) (Or.inr f1)) (by omega) (cu_cm h hq)
    · rw [eP]; exact (v2 c hc).1
    · obtain ⟨p, p1, p2, p3⟩ := hon c t hc ht
      rw [← p3, hmo c p hc p1 p2]
      exact (hnew c p hc p1 p2).1
  refine ⟨P', mo', _, hC, ?_, hcnt, t3, by omega⟩
  intro c t hc ht
  obtain ⟨p, p1, p2, p3⟩ := hon c t hc ht
  rcases (hkp c p hc p1).mp p2 with z | ⟨r, hr, ho, z⟩
  · left; rw [← p3, z]; rfl
  · right
    refine ⟨r, hr, by rw [hst r hr 2 (by omega)]; exact ho, ?_⟩
    rw [(hfq r c hr hc ho).2, z, p3]
end RVA
end
