-- ===== PART A: goes FIRST, ahead of the names: the tables' words, and 'selects' of the private methods out of them =====
/-- a private method of a class that the tables say can be made, by its rows of tables_1 -/
def lw_okq (q : MethodName × Nat) : Prop := (q.1.cls ≠ "java/lang/invoke/MethodHandle" ∧ q.1.cls ≠ "java/lang/invoke/VarHandle") ∧ Cond.instantiable q.1.cls q.2 ∈ tables_1 ∧ Cond.privateMethod q.1 ∈ tables_1 ∧ Cond.instanceMethod q.1 ∈ tables_1
theorem lw_p0 : lw_okq (⟨"RentedMoments$History", "dropOldest", "()V"⟩, 2) := ⟨⟨by decide +kernel, by decide +kernel⟩, List.mem_of_getElem? (i := 185) (by decide +kernel), List.mem_of_getElem? (i := 381) (by decide +kernel), List.mem_of_getElem? (i := 382) (by decide +kernel)⟩
theorem lw_p1 : lw_okq (⟨"RentedMoments$State", "noteCommit", "(I)V"⟩, 11) := ⟨⟨by decide +kernel, by decide +kernel⟩, List.mem_of_getElem? (i := 19) (by decide +kernel), List.mem_of_getElem? (i := 505) (by decide +kernel), List.mem_of_getElem? (i := 506) (by decide +kernel)⟩
theorem lw_p2 : lw_okq (⟨"RentedMoments$State", "pushWrites", "(LRentedMoments$Reader;)V"⟩, 11) := ⟨⟨by decide +kernel, by decide +kernel⟩, List.mem_of_getElem? (i := 19) (by decide +kernel), List.mem_of_getElem? (i := 510) (by decide +kernel), List.mem_of_getElem? (i := 511) (by decide +kernel)⟩
def lw_privs_1 : List (MethodName × Nat) := [(⟨"RentedMoments$History", "dropOldest", "()V"⟩, 2), (⟨"RentedMoments$State", "noteCommit", "(I)V"⟩, 11), (⟨"RentedMoments$State", "pushWrites", "(LRentedMoments$Reader;)V"⟩, 11)]
theorem lw_r1 : ∀ q ∈ lw_privs_1, lw_okq q := List.forall_mem_cons.mpr ⟨lw_p0, List.forall_mem_cons.mpr ⟨lw_p1, List.forall_mem_cons.mpr ⟨lw_p2, fun _ h => absurd h List.not_mem_nil⟩⟩⟩
def lw_privs : List (MethodName × Nat) := lw_privs_1
def lw_tbl : List Cond := k2_sels lw_privs ++ tables_1
theorem lw_privs_ok : ∀ q ∈ lw_privs, lw_okq q := lw_r1
def RX0 : String := "RentedMoments$Cell"
def TX0 : u_T := fun k => match k with
  | 0 => ("RentedMoments$Cell", "values", "[I", true)
  | 1 => ("RentedMoments$Cell", "moments", "[I", true)
  | _ => ("RentedMoments$Cell", "places", "I", false)
def tyX0 : Nat → FieldType := fun k => match k with
  | 0 => .array .int
  | 1 => .array .int
  | _ => .int
abbrev wsX00 : List Cond := u_ws RX0 TX0 3
theorem nmX0 : ∀ a, a < 3 → ∀ b, b < 3 → a ≠ b → (TX0 a).2.1 ≠ (TX0 b).2.1 := by decide +kernel
theorem tyX0_ok : ∀ k, k < 3 → parseFieldDescriptor (TX0 k).2.2.1 = some (tyX0 k) := by decide +kernel
abbrev cX0_init : ByteArray := prog_2_method_1_code
def yX0_init : MethodName := ⟨RX0, "<init>", "()V"⟩
abbrev cX0_copyFrom : ByteArray := prog_2_method_2_code
def yX0_copyFrom : MethodName := ⟨RX0, "copyFrom", "(LRentedMoments$Cell;)V"⟩
abbrev cX0_placeSeenAt : ByteArray := prog_2_method_3_code
def yX0_placeSeenAt : MethodName := ⟨RX0, "placeSeenAt", "(I)I"⟩
abbrev cX0_valueSeenAt : ByteArray := prog_2_method_4_code
def yX0_valueSeenAt : MethodName := ⟨RX0, "valueSeenAt", "(I)I"⟩
abbrev cX0_push : ByteArray := prog_2_method_5_code
def yX0_push : MethodName := ⟨RX0, "push", "(II)V"⟩
abbrev cX0_retainOld : ByteArray := prog_2_method_6_code
def yX0_retainOld : MethodName := ⟨RX0, "retainOld", "(I)I"⟩
def RX1 : String := "RentedMoments$Commit"
def TX1 : u_T := fun k => match k with
  | 0 => ("RentedMoments$Commit", "reader", "I", false)
  | 1 => ("RentedMoments$Commit", "readerMoment", "I", false)
  | 2 => ("RentedMoments$Commit", "madeMoment", "I", false)
  | 3 => ("RentedMoments$Commit", "writtenCells", "I", false)
  | 4 => ("RentedMoments$Commit", "readCells", "I", false)
  | _ => ("RentedMoments$Commit", "skews", "I", false)
def tyX1 : Nat → FieldType := fun k => match k with
  | 0 => .int
  | 1 => .int
  | 2 => .int
  | 3 => .int
  | 4 => .int
  | _ => .int
abbrev wsX10 : List Cond := u_ws RX1 TX1 6
theorem nmX1 : ∀ a, a < 6 → ∀ b, b < 6 → a ≠ b → (TX1 a).2.1 ≠ (TX1 b).2.1 := by decide +kernel
theorem tyX1_ok : ∀ k, k < 6 → parseFieldDescriptor (TX1 k).2.2.1 = some (tyX1 k) := by decide +kernel
abbrev cX1_init : ByteArray := prog_3_method_1_code
def yX1_init : MethodName := ⟨RX1, "<init>", "()V"⟩
abbrev cX1_copyFrom : ByteArray := prog_3_method_2_code
def yX1_copyFrom : MethodName := ⟨RX1, "copyFrom", "(LRentedMoments$Commit;)V"⟩
abbrev cX1_isInSkewWithLater : ByteArray := prog_3_method_3_code
def yX1_isInSkewWithLater : MethodName := ⟨RX1, "isInSkewWithLater", "(LRentedMoments$Reader;)Z"⟩
def RX2 : String := "RentedMoments$History"
def TX2 : u_T := fun k => match k with
  | 0 => ("RentedMoments$History", "states", "[LRentedMoments$State;", true)
  | _ => ("RentedMoments$History", "length", "I", false)
def tyX2 : Nat → FieldType := fun k => match k with
  | 0 => .array (.object "RentedMoments$State")
  | _ => .int
abbrev wsX20 : List Cond := u_ws RX2 TX2 2
theorem nmX2 : ∀ a, a < 2 → ∀ b, b < 2 → a ≠ b → (TX2 a).2.1 ≠ (TX2 b).2.1 := by decide +kernel
theorem tyX2_ok : ∀ k, k < 2 → parseFieldDescriptor (TX2 k).2.2.1 = some (tyX2 k) := by decide +kernel
abbrev cX2_init : ByteArray := prog_4_method_1_code
def yX2_init : MethodName := ⟨RX2, "<init>", "()V"⟩
abbrev cX2_record : ByteArray := prog_4_method_2_code
def yX2_record : MethodName := ⟨RX2, "record", "(LRentedMoments$State;)V"⟩
abbrev cX2_dropOldest : ByteArray := prog_4_method_3_code
def yX2_dropOldest : MethodName := ⟨RX2, "dropOldest", "()V"⟩
abbrev cX2_bringBack : ByteArray := prog_4_method_4_code
def yX2_bringBack : MethodName := ⟨RX2, "bringBack", "(LRentedMoments$State;)V"⟩
def RX3 : String := "RentedMoments$Reader"
def TX3 : u_T := fun k => match k with
  | 0 => ("RentedMoments$Reader", "writes", "[I", true)
  | 1 => ("RentedMoments$Reader", "state", "I", false)
  | 2 => ("RentedMoments$Reader", "moment", "I", false)
  | 3 => ("RentedMoments$Reader", "purse", "I", false)
  | 4 => ("RentedMoments$Reader", "readCells", "I", false)
  | 5 => ("RentedMoments$Reader", "writtenCells", "I", false)
  | 6 => ("RentedMoments$Reader", "term", "I", false)
  | 7 => ("RentedMoments$Reader", "paid", "I", false)
  | _ => ("RentedMoments$Reader", "wasWidow", "Z", false)
def tyX3 : Nat → FieldType := fun k => match k with
  | 0 => .array .int
  | 1 => .int
  | 2 => .int
  | 3 => .int
  | 4 => .int
  | 5 => .int
  | 6 => .int
  | 7 => .int
  | _ => .boolean
abbrev wsX30 : List Cond := u_ws RX3 TX3 9
theorem nmX3 : ∀ a, a < 9 → ∀ b, b < 9 → a ≠ b → (TX3 a).2.1 ≠ (TX3 b).2.1 := by decide +kernel
theorem tyX3_ok : ∀ k, k < 9 → parseFieldDescriptor (TX3 k).2.2.1 = some (tyX3 k) := by decide +kernel
abbrev cX3_init : ByteArray := prog_5_method_1_code
def yX3_init : MethodName := ⟨RX3, "<init>", "()V"⟩
abbrev cX3_begin : ByteArray := prog_5_method_2_code
def yX3_begin : MethodName := ⟨RX3, "begin", "(II)V"⟩
abbrev cX3_copyFrom : ByteArray := prog_5_method_3_code
def yX3_copyFrom : MethodName := ⟨RX3, "copyFrom", "(LRentedMoments$Reader;)V"⟩
abbrev cX3_isOpen : ByteArray := prog_5_method_4_code
def yX3_isOpen : MethodName := ⟨RX3, "isOpen", "()Z"⟩
abbrev cX3_isOpenWidow : ByteArray := prog_5_method_5_code
def yX3_isOpenWidow : MethodName := ⟨RX3, "isOpenWidow", "()Z"⟩
abbrev cX3_paysRent : ByteArray := prog_5_method_6_code
def yX3_paysRent : MethodName := ⟨RX3, "paysRent", "()Z"⟩
abbrev cX3_hasWrite : ByteArray := prog_5_method_7_code
def yX3_hasWrite : MethodName := ⟨RX3, "hasWrite", "(I)Z"⟩
abbrev cX3_putWrite : ByteArray := prog_5_method_8_code
def yX3_putWrite : MethodName := ⟨RX3, "putWrite", "(II)V"⟩
abbrev cX3_numberOfWrites : ByteArray := prog_5_method_9_code
def yX3_numberOfWrites : MethodName := ⟨RX3, "numberOfWrites", "()I"⟩
def RX4 : String := "RentedMoments$State"
def TX4 : u_T := fun k => match k with
  | 0 => ("RentedMoments$State", "cells", "[LRentedMoments$Cell;", true)
  | 1 => ("RentedMoments$State", "readers", "[LRentedMoments$Reader;", true)
  | 2 => ("RentedMoments$State", "commits", "[LRentedMoments$Commit;", true)
  | 3 => ("RentedMoments$State", "moment", "I", false)
  | 4 => ("RentedMoments$State", "tickNumber", "I", false)
  | 5 => ("RentedMoments$State", "rent", "I", false)
  | 6 => ("RentedMoments$State", "readersBeen", "I", false)
  | 7 => ("RentedMoments$State", "commitsMade", "I", false)
  | 8 => ("RentedMoments$State", "removedVersions", "I", false)
  | 9 => ("RentedMoments$State", "skewForbidden", "Z", false)
  | _ => ("RentedMoments$State", "dues", "[I", true)
def tyX4 : Nat → FieldType := fun k => match k with
  | 0 => .array (.object "RentedMoments$Cell")
  | 1 => .array (.object "RentedMoments$Reader")
  | 2 => .array (.object "RentedMoments$Commit")
  | 3 => .int
  | 4 => .int
  | 5 => .int
  | 6 => .int
  | 7 => .int
  | 8 => .int
  | 9 => .boolean
  | _ => .array .int
abbrev wsX40 : List Cond := u_ws RX4 TX4 11
theorem nmX4 : ∀ a, a < 11 → ∀ b, b < 11 → a ≠ b → (TX4 a).2.1 ≠ (TX4 b).2.1 := by decide +kernel
theorem tyX4_ok : ∀ k, k < 11 → parseFieldDescriptor (TX4 k).2.2.1 = some (tyX4 k) := by decide +kernel
abbrev cX4_init : ByteArray := prog_6_method_1_code
def yX4_init : MethodName := ⟨RX4, "<init>", "()V"⟩
abbrev cX4_copyFrom : ByteArray := prog_6_method_2_code
def yX4_copyFrom : MethodName := ⟨RX4, "copyFrom", "(LRentedMoments$State;)V"⟩
abbrev cX4_hasReader : ByteArray := prog_6_method_3_code
def yX4_hasReader : MethodName := ⟨RX4, "hasReader", "(I)Z"⟩
abbrev cX4_addReader : ByteArray := prog_6_method_4_code
def yX4_addReader : MethodName := ⟨RX4, "addReader", "(I)I"⟩
abbrev cX4_readersIn : ByteArray := prog_6_method_5_code
def yX4_readersIn : MethodName := ⟨RX4, "readersIn", "(I)I"⟩
abbrev cX4_openWidows : ByteArray := prog_6_method_6_code
def yX4_openWidows : MethodName := ⟨RX4, "openWidows", "()I"⟩
abbrev cX4_coinsPaid : ByteArray := prog_6_method_7_code
def yX4_coinsPaid : MethodName := ⟨RX4, "coinsPaid", "()I"⟩
abbrev cX4_writersOf : ByteArray := prog_6_method_8_code
def yX4_writersOf : MethodName := ⟨RX4, "writersOf", "(I)I"⟩
abbrev cX4_seersOf : ByteArray := prog_6_method_9_code
def yX4_seersOf : MethodName := ⟨RX4, "seersOf", "(LRentedMoments$Cell;I)I"⟩
abbrev cX4_payersOf : ByteArray := prog_6_method_10_code
def yX4_payersOf : MethodName := ⟨RX4, "payersOf", "(LRentedMoments$Cell;I)I"⟩
abbrev cX4_placesSeen : ByteArray := prog_6_method_11_code
def yX4_placesSeen : MethodName := ⟨RX4, "placesSeen", "(LRentedMoments$Cell;I)I"⟩
abbrev cX4_oldVersions : ByteArray := prog_6_method_12_code
def yX4_oldVersions : MethodName := ⟨RX4, "oldVersions", "()I"⟩
abbrev cX4_oldVersionsSeenBy : ByteArray := prog_6_method_13_code
def yX4_oldVersionsSeenBy : MethodName := ⟨RX4, "oldVersionsSeenBy", "(LRentedMoments$Reader;)I"⟩
abbrev cX4_sumSeenBy : ByteArray := prog_6_method_14_code
def yX4_sumSeenBy : MethodName := ⟨RX4, "sumSeenBy", "(LRentedMoments$Reader;)I"⟩
abbrev cX4_removeUnseen : ByteArray := prog_6_method_15_code
def yX4_removeUnseen : MethodName := ⟨RX4, "removeUnseen", "()I"⟩
abbrev cX4_shareOf : ByteArray := prog_6_method_16_code
def yX4_shareOf : MethodName := ⟨RX4, "shareOf", "(LRentedMoments$Cell;I)I"⟩
abbrev cX4_dueOf : ByteArray := prog_6_method_17_code
def yX4_dueOf : MethodName := ⟨RX4, "dueOf", "(LRentedMoments$Reader;)I"⟩
abbrev cX4_tellDues : ByteArray := prog_6_method_18_code
def yX4_tellDues : MethodName := ⟨RX4, "tellDues", "()V"⟩
abbrev cX4_letTicksPass : ByteArray := prog_6_method_19_code
def yX4_letTicksPass : MethodName := ⟨RX4, "letTicksPass", "(II)V"⟩
abbrev cX4_takeDues : ByteArray := prog_6_method_20_code
def yX4_takeDues : MethodName := ⟨RX4, "takeDues", "()Z"⟩
abbrev cX4_shortenTerms : ByteArray := prog_6_method_21_code
def yX4_shortenTerms : MethodName := ⟨RX4, "shortenTerms", "()Z"⟩
abbrev cX4_hasConflict : ByteArray := prog_6_method_22_code
def yX4_hasConflict : MethodName := ⟨RX4, "hasConflict", "(LRentedMoments$Reader;)Z"⟩
abbrev cX4_skewsOf : ByteArray := prog_6_method_23_code
def yX4_skewsOf : MethodName := ⟨RX4, "skewsOf", "(LRentedMoments$Reader;)I"⟩
abbrev cX4_pairsInSkew : ByteArray := prog_6_method_24_code
def yX4_pairsInSkew : MethodName := ⟨RX4, "pairsInSkew", "()I"⟩
abbrev cX4_oldVersionsWithout : ByteArray := prog_6_method_25_code
def yX4_oldVersionsWithout : MethodName := ⟨RX4, "oldVersionsWithout", "(I)I"⟩
abbrev cX4_land : ByteArray := prog_6_method_26_code
def yX4_land : MethodName := ⟨RX4, "land", "(I)V"⟩
abbrev cX4_noteCommit : ByteArray := prog_6_method_27_code
def yX4_noteCommit : MethodName := ⟨RX4, "noteCommit", "(I)V"⟩
abbrev cX4_pushWrites : ByteArray := prog_6_method_28_code
def yX4_pushWrites : MethodName := ⟨RX4, "pushWrites", "(LRentedMoments$Reader;)V"⟩
def RX5 : String := "RentedMoments$WriteText"
def TX5 : u_T := fun k => match k with
  | 0 => ("RentedMoments$WriteText", "signs", "[C", true)
  | 1 => ("RentedMoments$WriteText", "length", "I", false)
  | 2 => ("RentedMoments$WriteText", "cells", "[I", true)
  | 3 => ("RentedMoments$WriteText", "values", "[I", true)
  | _ => ("RentedMoments$WriteText", "writes", "I", false)
def tyX5 : Nat → FieldType := fun k => match k with
  | 0 => .array .char
  | 1 => .int
  | 2 => .array .int
  | 3 => .array .int
  | _ => .int
abbrev wsX50 : List Cond := u_ws RX5 TX5 5
theorem nmX5 : ∀ a, a < 5 → ∀ b, b < 5 → a ≠ b → (TX5 a).2.1 ≠ (TX5 b).2.1 := by decide +kernel
theorem tyX5_ok : ∀ k, k < 5 → parseFieldDescriptor (TX5 k).2.2.1 = some (tyX5 k) := by decide +kernel
abbrev cX5_init : ByteArray := prog_7_method_1_code
def yX5_init : MethodName := ⟨RX5, "<init>", "()V"⟩
def RX6 : String := "RentedMoments"
def TX6 : u_T := fun k => match k with
  | 0 => ("RentedMoments", "now", "LRentedMoments$State;", true)
  | 1 => ("RentedMoments", "ahead", "LRentedMoments$State;", true)
  | 2 => ("RentedMoments", "snapshot", "LRentedMoments$State;", true)
  | 3 => ("RentedMoments", "history", "LRentedMoments$History;", true)
  | 4 => ("RentedMoments", "text", "LRentedMoments$WriteText;", true)
  | _ => ("RentedMoments", "hasSnapshot", "Z", false)
def tyX6 : Nat → FieldType := fun k => match k with
  | 0 => .object "RentedMoments$State"
  | 1 => .object "RentedMoments$State"
  | 2 => .object "RentedMoments$State"
  | 3 => .object "RentedMoments$History"
  | 4 => .object "RentedMoments$WriteText"
  | _ => .boolean
abbrev wsX60 : List Cond := u_ws RX6 TX6 6
theorem nmX6 : ∀ a, a < 6 → ∀ b, b < 6 → a ≠ b → (TX6 a).2.1 ≠ (TX6 b).2.1 := by decide +kernel
theorem tyX6_ok : ∀ k, k < 6 → parseFieldDescriptor (TX6 k).2.2.1 = some (tyX6 k) := by decide +kernel
abbrev cX6_init : ByteArray := prog_1_method_1_code
def yX6_init : MethodName := ⟨RX6, "<init>", "()V"⟩
abbrev cX6_open : ByteArray := prog_1_method_2_code
def yX6_open : MethodName := ⟨RX6, "open", "(I)I"⟩
abbrev cX6_pay : ByteArray := prog_1_method_3_code
def yX6_pay : MethodName := ⟨RX6, "pay", "(II)I"⟩
abbrev cX6_widow : ByteArray := prog_1_method_4_code
def yX6_widow : MethodName := ⟨RX6, "widow", "(II)I"⟩
abbrev cX6_close : ByteArray := prog_1_method_5_code
def yX6_close : MethodName := ⟨RX6, "close", "(I)I"⟩
abbrev cX6_setRent : ByteArray := prog_1_method_6_code
def yX6_setRent : MethodName := ⟨RX6, "setRent", "(I)I"⟩
abbrev cX6_forbidSkew : ByteArray := prog_1_method_7_code
def yX6_forbidSkew : MethodName := ⟨RX6, "forbidSkew", "(Z)I"⟩
abbrev cX6_tick : ByteArray := prog_1_method_8_code
def yX6_tick : MethodName := ⟨RX6, "tick", "(I)I"⟩
abbrev cX6_read : ByteArray := prog_1_method_9_code
def yX6_read : MethodName := ⟨RX6, "read", "(II)I"⟩
abbrev cX6_write : ByteArray := prog_1_method_10_code
def yX6_write : MethodName := ⟨RX6, "write", "(III)I"⟩
abbrev cX6_commit : ByteArray := prog_1_method_11_code
def yX6_commit : MethodName := ⟨RX6, "commit", "(I)I"⟩
abbrev cX6_undo : ByteArray := prog_1_method_15_code
def yX6_undo : MethodName := ⟨RX6, "undo", "()I"⟩
abbrev cX6_cell : ByteArray := prog_1_method_18_code
def yX6_cell : MethodName := ⟨RX6, "cell", "(II)I"⟩
abbrev cX6_version : ByteArray := prog_1_method_19_code
def yX6_version : MethodName := ⟨RX6, "version", "(III)I"⟩
abbrev cX6_reader : ByteArray := prog_1_method_20_code
def yX6_reader : MethodName := ⟨RX6, "reader", "(II)I"⟩
abbrev cX6_committed : ByteArray := prog_1_method_22_code
def yX6_committed : MethodName := ⟨RX6, "committed", "(II)I"⟩
abbrev cX6_count : ByteArray := prog_1_method_23_code
def yX6_count : MethodName := ⟨RX6, "count", "(I)I"⟩
abbrev cX6_isCell : ByteArray := prog_1_method_24_code
def yX6_isCell : MethodName := ⟨RX6, "isCell", "(I)Z"⟩
def RX7 : String := "RentedMomentsModel"
def TX7 : u_T := fun k => match k with
  | _ => ("", "", "", false)
def tyX7 : Nat → FieldType := fun k => match k with
  | _ => .int
abbrev wsX70 : List Cond := u_ws RX7 TX7 0
theorem nmX7 : ∀ a, a < 0 → ∀ b, b < 0 → a ≠ b → (TX7 a).2.1 ≠ (TX7 b).2.1 := by decide +kernel
theorem tyX7_ok : ∀ k, k < 0 → parseFieldDescriptor (TX7 k).2.2.1 = some (tyX7 k) := by decide +kernel
def RJ6 : String := "java/lang/Integer"
def TJ6 : u_T := fun k => match k with
  | _ => ("", "", "", false)
def tyJ6 : Nat → FieldType := fun k => match k with
  | _ => .int
abbrev wsJ60 : List Cond := u_ws RJ6 TJ6 0
theorem nmJ6 : ∀ a, a < 0 → ∀ b, b < 0 → a ≠ b → (TJ6 a).2.1 ≠ (TJ6 b).2.1 := by decide +kernel
theorem tyJ6_ok : ∀ k, k < 0 → parseFieldDescriptor (TJ6 k).2.2.1 = some (tyJ6 k) := by decide +kernel
abbrev cJ6_bitCount_0f7a4 : ByteArray := prog_10_method_49_code
def yJ6_bitCount_0f7a4 : MethodName := ⟨RJ6, "bitCount", "(I)I"⟩
def RJ10 : String := "java/lang/System"
def TJ10 : u_T := fun k => match k with
  | _ => ("", "", "", false)
def tyJ10 : Nat → FieldType := fun k => match k with
  | _ => .int
abbrev wsJ100 : List Cond := u_ws RJ10 TJ10 0
theorem nmJ10 : ∀ a, a < 0 → ∀ b, b < 0 → a ≠ b → (TJ10 a).2.1 ≠ (TJ10 b).2.1 := by decide +kernel
theorem tyJ10_ok : ∀ k, k < 0 → parseFieldDescriptor (TJ10 k).2.2.1 = some (tyJ10 k) := by decide +kernel
def RL : String := "RentedMomentsLaw"
abbrev cL_cell : ByteArray := method_2_code
def yL_cell : MethodName := ⟨RL, "cell", "([II)I"⟩
abbrev cL_up : ByteArray := method_3_code
def yL_up : MethodName := ⟨RL, "up", "(II)I"⟩
abbrev cL_view : ByteArray := method_4_code
def yL_view : MethodName := ⟨RL, "view", "(LRentedMoments;)J"⟩
abbrev cL_any : ByteArray := method_5_code
def yL_any : MethodName := ⟨RL, "any", "(LRentedMoments;II)I"⟩
abbrev cL_turn : ByteArray := method_6_code
def yL_turn : MethodName := ⟨RL, "turn", "(LRentedMoments;III)I"⟩
abbrev cL_seen : ByteArray := method_7_code
def yL_seen : MethodName := ⟨RL, "seen", "(LRentedMoments;I)I"⟩
abbrev cL_areVersions : ByteArray := method_8_code
def yL_areVersions : MethodName := ⟨RL, "areVersions", "(LRentedMoments;)Z"⟩
abbrev cL_coins : ByteArray := method_9_code
def yL_coins : MethodName := ⟨RL, "coins", "(LRentedMoments;J)J"⟩
abbrev cL_putBy : ByteArray := method_10_code
def yL_putBy : MethodName := ⟨RL, "putBy", "(IIII)J"⟩
abbrev cL_isUndone : ByteArray := method_11_code
def yL_isUndone : MethodName := ⟨RL, "isUndone", "(LRentedMoments;IIIIJ)Z"⟩
abbrev cL_law : ByteArray := code
def yL_law : MethodName := ⟨RL, "law", "([I)Z"⟩
abbrev vwCl : List vw_C := [(RX0, TX0, 3), (RX1, TX1, 6), (RX2, TX2, 2), (RX3, TX3, 9), (RX4, TX4, 11), (RX5, TX5, 5), (RX6, TX6, 6)]
