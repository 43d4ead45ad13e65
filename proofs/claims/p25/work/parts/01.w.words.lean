/-! the words of the tables that a call may carry, and the nest mates' links -/
def kWs : List Cond := k2_sels lw_privs ++ tables_1.filter goodWord
theorem kWs_in : ∀ w ∈ kWs, w ∈ lw_tbl := fun w h => (List.mem_append.mp h).elim (fun h => List.mem_append_left _ h) (fun h => List.mem_append_right _ (List.mem_filter.mp h).1)
theorem kWs_good : ∀ w ∈ kWs, goodWord w = true := by
  intro w h
  rcases List.mem_append.mp h with h | h
  · obtain ⟨q, -, rfl⟩ := List.mem_map.mp h
    rfl
  · exact (List.mem_filter.mp h).2
theorem kWs_of {w : Cond} (i : Nat) (h : tables_1[i]? = some w) (hg : goodWord w = true) : w ∈ kWs := List.mem_append_right _ (List.mem_filter.mpr ⟨List.mem_of_getElem? h, hg⟩)
theorem kWs_pr {w : Cond} (i : Nat) (h : (k2_sels lw_privs)[i]? = some w) : w ∈ kWs := List.mem_append_left _ (List.mem_of_getElem? h)
def kNw : List Cond := [.methodLinkNest "RentedMoments$State" 37 ⟨"RentedMoments$Cell", "<init>", "()V"⟩ "RentedMoments", .fieldLinkNest "RentedMoments" 175 "RentedMoments$Cell" "values" "[I" "RentedMoments", .fieldLinkNest "RentedMoments" 176 "RentedMoments$Cell" "moments" "[I" "RentedMoments", .fieldLinkNest "RentedMoments$State" 143 "RentedMoments$Cell" "moments" "[I" "RentedMoments", .fieldLinkNest "RentedMoments$State" 98 "RentedMoments$Cell" "places" "I" "RentedMoments", .fieldLinkNest "RentedMoments" 179 "RentedMoments$Cell" "places" "I" "RentedMoments", .methodLinkNest "RentedMoments$State" 38 ⟨"RentedMoments$Reader", "<init>", "()V"⟩ "RentedMoments", .fieldLinkNest "RentedMoments" 105 "RentedMoments$Reader" "writes" "[I" "RentedMoments", .fieldLinkNest "RentedMoments$State" 185 "RentedMoments$Reader" "writes" "[I" "RentedMoments", .fieldLinkNest "RentedMoments$State" 73 "RentedMoments$Reader" "state" "I" "RentedMoments", .fieldLinkNest "RentedMoments" 79 "RentedMoments$Reader" "state" "I" "RentedMoments", .fieldLinkNest "RentedMoments$Commit" 28 "RentedMoments$Reader" "moment" "I" "RentedMoments", .fieldLinkNest "RentedMoments$State" 90 "RentedMoments$Reader" "moment" "I" "RentedMoments", .fieldLinkNest "RentedMoments" 116 "RentedMoments$Reader" "moment" "I" "RentedMoments", .fieldLinkNest "RentedMoments" 65 "RentedMoments$Reader" "purse" "I" "RentedMoments", .fieldLinkNest "RentedMoments$State" 137 "RentedMoments$Reader" "purse" "I" "RentedMoments", .fieldLinkNest "RentedMoments$Commit" 33 "RentedMoments$Reader" "readCells" "I" "RentedMoments", .fieldLinkNest "RentedMoments" 109 "RentedMoments$Reader" "readCells" "I" "RentedMoments", .fieldLinkNest "RentedMoments$State" 178 "RentedMoments$Reader" "readCells" "I" "RentedMoments", .fieldLinkNest "RentedMoments$Commit" 34 "RentedMoments$Reader" "writtenCells" "I" "RentedMoments", .fieldLinkNest "RentedMoments" 195 "RentedMoments$Reader" "writtenCells" "I" "RentedMoments", .fieldLinkNest "RentedMoments$State" 158 "RentedMoments$Reader" "writtenCells" "I" "RentedMoments", .fieldLinkNest "RentedMoments" 76 "RentedMoments$Reader" "term" "I" "RentedMoments", .fieldLinkNest "RentedMoments$State" 140 "RentedMoments$Reader" "term" "I" "RentedMoments", .fieldLinkNest "RentedMoments$State" 80 "RentedMoments$Reader" "paid" "I" "RentedMoments", .fieldLinkNest "RentedMoments" 198 "RentedMoments$Reader" "paid" "I" "RentedMoments", .fieldLinkNest "RentedMoments" 68 "RentedMoments$Reader" "wasWidow" "Z" "RentedMoments", .methodLinkNest "RentedMoments$State" 39 ⟨"RentedMoments$Commit", "<init>", "()V"⟩ "RentedMoments", .fieldLinkNest "RentedMoments" 217 "RentedMoments$Commit" "reader" "I" "RentedMoments", .fieldLinkNest "RentedMoments$State" 168 "RentedMoments$Commit" "reader" "I" "RentedMoments", .fieldLinkNest "RentedMoments" 222 "RentedMoments$Commit" "readerMoment" "I" "RentedMoments", .fieldLinkNest "RentedMoments$State" 171 "RentedMoments$Commit" "readerMoment" "I" "RentedMoments", .fieldLinkNest "RentedMoments" 225 "RentedMoments$Commit" "madeMoment" "I" "RentedMoments", .fieldLinkNest "RentedMoments$State" 174 "RentedMoments$Commit" "madeMoment" "I" "RentedMoments", .fieldLinkNest "RentedMoments" 228 "RentedMoments$Commit" "writtenCells" "I" "RentedMoments", .fieldLinkNest "RentedMoments$State" 177 "RentedMoments$Commit" "writtenCells" "I" "RentedMoments", .fieldLinkNest "RentedMoments" 229 "RentedMoments$Commit" "readCells" "I" "RentedMoments", .fieldLinkNest "RentedMoments$State" 181 "RentedMoments$Commit" "readCells" "I" "RentedMoments", .fieldLinkNest "RentedMoments" 230 "RentedMoments$Commit" "skews" "I" "RentedMoments", .fieldLinkNest "RentedMoments$State" 150 "RentedMoments$Commit" "skews" "I" "RentedMoments", .fieldLinkNest "RentedMoments" 112 "RentedMoments$State" "cells" "[LRentedMoments$Cell;" "RentedMoments", .fieldLinkNest "RentedMoments" 55 "RentedMoments$State" "readers" "[LRentedMoments$Reader;" "RentedMoments", .fieldLinkNest "RentedMoments" 213 "RentedMoments$State" "commits" "[LRentedMoments$Commit;" "RentedMoments", .fieldLinkNest "RentedMoments" 144 "RentedMoments$State" "moment" "I" "RentedMoments", .fieldLinkNest "RentedMoments" 207 "RentedMoments$State" "tickNumber" "I" "RentedMoments", .fieldLinkNest "RentedMoments" 86 "RentedMoments$State" "rent" "I" "RentedMoments", .fieldLinkNest "RentedMoments" 36 "RentedMoments$State" "readersBeen" "I" "RentedMoments", .fieldLinkNest "RentedMoments" 210 "RentedMoments$State" "commitsMade" "I" "RentedMoments", .fieldLinkNest "RentedMoments" 236 "RentedMoments$State" "removedVersions" "I" "RentedMoments", .fieldLinkNest "RentedMoments" 89 "RentedMoments$State" "skewForbidden" "Z" "RentedMoments", .fieldLinkNest "RentedMoments" 165 "RentedMoments$History" "length" "I" "RentedMoments", .methodLinkNest "RentedMoments" 31 ⟨"RentedMoments$WriteText", "<init>", "()V"⟩ "RentedMoments", .fieldLinkNest "RentedMoments" 145 "RentedMoments$WriteText" "length" "I" "RentedMoments"]
theorem kNw_in : ∀ w ∈ kNw, w ∈ tables_1 := by
  intro w h
  rw [show kNw = [31, 36, 38, 39, 41, 42, 52, 57, 58, 60, 61, 63, 64, 65, 67, 68, 70, 71, 72, 74, 75, 76, 78, 79, 81, 82, 84, 105, 110, 111, 113, 114, 116, 117, 119, 120, 122, 123, 125, 126, 141, 143, 145, 147, 149, 151, 152, 155, 157, 159, 195, 203, 208].filterMap (fun i => tables_1[i]?) from by decide +kernel] at h
  obtain ⟨i, -, hi⟩ := List.mem_filterMap.mp h
  exact List.mem_of_getElem? hi
theorem inK0 : ∀ w ∈ u_ws RX0 TX0 3, w ∈ kWs := by
  intro w h
  rw [show u_ws RX0 TX0 3 = [43, 45, 47].filterMap (fun i => tables_1[i]?) from by decide +kernel] at h
  obtain ⟨i, -, hi⟩ := List.mem_filterMap.mp h
  exact kWs_of i hi (List.all_eq_true.mp (show ([43, 45, 47].filterMap (fun i => tables_1[i]?)).all goodWord = true from by decide +kernel) w h)
theorem inK1 : ∀ w ∈ u_ws RX1 TX1 6, w ∈ kWs := by
  intro w h
  rw [show u_ws RX1 TX1 6 = [127, 129, 131, 133, 135, 137].filterMap (fun i => tables_1[i]?) from by decide +kernel] at h
  obtain ⟨i, -, hi⟩ := List.mem_filterMap.mp h
  exact kWs_of i hi (List.all_eq_true.mp (show ([127, 129, 131, 133, 135, 137].filterMap (fun i => tables_1[i]?)).all goodWord = true from by decide +kernel) w h)
theorem inK2 : ∀ w ∈ u_ws RX2 TX2 2, w ∈ kWs := by
  intro w h
  rw [show u_ws RX2 TX2 2 = [196, 198].filterMap (fun i => tables_1[i]?) from by decide +kernel] at h
  obtain ⟨i, -, hi⟩ := List.mem_filterMap.mp h
  exact kWs_of i hi (List.all_eq_true.mp (show ([196, 198].filterMap (fun i => tables_1[i]?)).all goodWord = true from by decide +kernel) w h)
theorem inK3 : ∀ w ∈ u_ws RX3 TX3 9, w ∈ kWs := by
  intro w h
  rw [show u_ws RX3 TX3 9 = [85, 87, 89, 91, 93, 95, 97, 99, 101].filterMap (fun i => tables_1[i]?) from by decide +kernel] at h
  obtain ⟨i, -, hi⟩ := List.mem_filterMap.mp h
  exact kWs_of i hi (List.all_eq_true.mp (show ([85, 87, 89, 91, 93, 95, 97, 99, 101].filterMap (fun i => tables_1[i]?)).all goodWord = true from by decide +kernel) w h)
theorem inK4 : ∀ w ∈ u_ws RX4 TX4 11, w ∈ kWs := by
  intro w h
  rw [show u_ws RX4 TX4 11 = [161, 163, 165, 167, 169, 171, 173, 175, 177, 179, 181].filterMap (fun i => tables_1[i]?) from by decide +kernel] at h
  obtain ⟨i, -, hi⟩ := List.mem_filterMap.mp h
  exact kWs_of i hi (List.all_eq_true.mp (show ([161, 163, 165, 167, 169, 171, 173, 175, 177, 179, 181].filterMap (fun i => tables_1[i]?)).all goodWord = true from by decide +kernel) w h)
theorem inK5 : ∀ w ∈ u_ws RX5 TX5 5, w ∈ kWs := by
  intro w h
  rw [show u_ws RX5 TX5 5 = [211, 213, 215, 217, 219].filterMap (fun i => tables_1[i]?) from by decide +kernel] at h
  obtain ⟨i, -, hi⟩ := List.mem_filterMap.mp h
  exact kWs_of i hi (List.all_eq_true.mp (show ([211, 213, 215, 217, 219].filterMap (fun i => tables_1[i]?)).all goodWord = true from by decide +kernel) w h)
theorem inK6 : ∀ w ∈ u_ws RX6 TX6 6, w ∈ kWs := by
  intro w h
  rw [show u_ws RX6 TX6 6 = [228, 230, 232, 234, 236, 238].filterMap (fun i => tables_1[i]?) from by decide +kernel] at h
  obtain ⟨i, -, hi⟩ := List.mem_filterMap.mp h
  exact kWs_of i hi (List.all_eq_true.mp (show ([228, 230, 232, 234, 236, 238].filterMap (fun i => tables_1[i]?)).all goodWord = true from by decide +kernel) w h)
set_option maxRecDepth 100000 in
theorem mw_X6_init : Cond.code yX6_init cX6_init 1 none ∈ kWs ∧ Cond.instanceMethod yX6_init ∈ kWs ∧ Cond.initialized RX6 ∈ kWs := ⟨kWs_of 14 rfl rfl, kWs_of 13 (by decide +kernel) rfl, kWs_of 1 (by decide +kernel) rfl⟩
set_option maxRecDepth 100000 in
theorem mw_X4_init : Cond.code yX4_init cX4_init 2 none ∈ kWs ∧ Cond.instanceMethod yX4_init ∈ kWs ∧ Cond.initialized RX4 ∈ kWs := ⟨kWs_of 22 rfl rfl, kWs_of 21 (by decide +kernel) rfl, kWs_of 2 (by decide +kernel) rfl⟩
set_option maxRecDepth 100000 in
theorem mw_X0_init : Cond.code yX0_init cX0_init 1 none ∈ kWs ∧ Cond.instanceMethod yX0_init ∈ kWs ∧ Cond.initialized RX0 ∈ kWs := ⟨kWs_of 33 rfl rfl, kWs_of 32 (by decide +kernel) rfl, kWs_of 3 (by decide +kernel) rfl⟩
set_option maxRecDepth 100000 in
theorem mw_X3_init : Cond.code yX3_init cX3_init 1 none ∈ kWs ∧ Cond.instanceMethod yX3_init ∈ kWs ∧ Cond.initialized RX3 ∈ kWs := ⟨kWs_of 54 rfl rfl, kWs_of 53 (by decide +kernel) rfl, kWs_of 4 (by decide +kernel) rfl⟩
set_option maxRecDepth 100000 in
theorem mw_X1_init : Cond.code yX1_init cX1_init 1 none ∈ kWs ∧ Cond.instanceMethod yX1_init ∈ kWs ∧ Cond.initialized RX1 ∈ kWs := ⟨kWs_of 107 rfl rfl, kWs_of 106 (by decide +kernel) rfl, kWs_of 5 (by decide +kernel) rfl⟩
set_option maxRecDepth 100000 in
theorem mw_X2_init : Cond.code yX2_init cX2_init 2 none ∈ kWs ∧ Cond.instanceMethod yX2_init ∈ kWs ∧ Cond.initialized RX2 ∈ kWs := ⟨kWs_of 188 rfl rfl, kWs_of 187 (by decide +kernel) rfl, kWs_of 6 (by decide +kernel) rfl⟩
set_option maxRecDepth 100000 in
theorem mw_X5_init : Cond.code yX5_init cX5_init 1 none ∈ kWs ∧ Cond.instanceMethod yX5_init ∈ kWs ∧ Cond.initialized RX5 ∈ kWs := ⟨kWs_of 205 rfl rfl, kWs_of 204 (by decide +kernel) rfl, kWs_of 7 (by decide +kernel) rfl⟩
set_option maxRecDepth 100000 in
theorem mw_L_cell : Cond.code yL_cell cL_cell 2 (some .int) ∈ kWs ∧ Cond.static yL_cell ∈ kWs ∧ Cond.initialized RL ∈ kWs := ⟨kWs_of 332 rfl rfl, kWs_of 331 (by decide +kernel) rfl, kWs_of 0 (by decide +kernel) rfl⟩
set_option maxRecDepth 100000 in
theorem mw_L_view : Cond.code yL_view cL_view 6 (some .long) ∈ kWs ∧ Cond.static yL_view ∈ kWs ∧ Cond.initialized RL ∈ kWs := ⟨kWs_of 336 rfl rfl, kWs_of 335 (by decide +kernel) rfl, kWs_of 0 (by decide +kernel) rfl⟩
set_option maxRecDepth 100000 in
theorem mw_X6_count : Cond.code yX6_count cX6_count 2 (some .int) ∈ kWs ∧ Cond.instanceMethod yX6_count ∈ kWs ∧ Cond.selects RX6 yX6_count yX6_count ∈ kWs ∧ Cond.initialized RX6 ∈ kWs := ⟨kWs_of 305 rfl rfl, kWs_of 303 (by decide +kernel) rfl, kWs_of 304 (by decide +kernel) rfl, kWs_of 1 (by decide +kernel) rfl⟩
set_option maxRecDepth 100000 in
theorem mw_X4_readersIn : Cond.code yX4_readersIn cX4_readersIn 4 (some .int) ∈ kWs ∧ Cond.instanceMethod yX4_readersIn ∈ kWs ∧ Cond.selects RX4 yX4_readersIn yX4_readersIn ∈ kWs ∧ Cond.initialized RX4 ∈ kWs := ⟨kWs_of 309 rfl rfl, kWs_of 307 (by decide +kernel) rfl, kWs_of 308 (by decide +kernel) rfl, kWs_of 2 (by decide +kernel) rfl⟩
set_option maxRecDepth 100000 in
theorem mw_X4_oldVersions : Cond.code yX4_oldVersions cX4_oldVersions 3 (some .int) ∈ kWs ∧ Cond.instanceMethod yX4_oldVersions ∈ kWs ∧ Cond.selects RX4 yX4_oldVersions yX4_oldVersions ∈ kWs ∧ Cond.initialized RX4 ∈ kWs := ⟨kWs_of 313 rfl rfl, kWs_of 311 (by decide +kernel) rfl, kWs_of 312 (by decide +kernel) rfl, kWs_of 2 (by decide +kernel) rfl⟩
set_option maxRecDepth 100000 in
theorem mw_X4_coinsPaid : Cond.code yX4_coinsPaid cX4_coinsPaid 3 (some .int) ∈ kWs ∧ Cond.instanceMethod yX4_coinsPaid ∈ kWs ∧ Cond.selects RX4 yX4_coinsPaid yX4_coinsPaid ∈ kWs ∧ Cond.initialized RX4 ∈ kWs := ⟨kWs_of 317 rfl rfl, kWs_of 315 (by decide +kernel) rfl, kWs_of 316 (by decide +kernel) rfl, kWs_of 2 (by decide +kernel) rfl⟩
set_option maxRecDepth 100000 in
theorem mw_X4_pairsInSkew : Cond.code yX4_pairsInSkew cX4_pairsInSkew 3 (some .int) ∈ kWs ∧ Cond.instanceMethod yX4_pairsInSkew ∈ kWs ∧ Cond.selects RX4 yX4_pairsInSkew yX4_pairsInSkew ∈ kWs ∧ Cond.initialized RX4 ∈ kWs := ⟨kWs_of 321 rfl rfl, kWs_of 319 (by decide +kernel) rfl, kWs_of 320 (by decide +kernel) rfl, kWs_of 2 (by decide +kernel) rfl⟩
set_option maxRecDepth 100000 in
theorem mw_X4_openWidows : Cond.code yX4_openWidows cX4_openWidows 3 (some .int) ∈ kWs ∧ Cond.instanceMethod yX4_openWidows ∈ kWs ∧ Cond.selects RX4 yX4_openWidows yX4_openWidows ∈ kWs ∧ Cond.initialized RX4 ∈ kWs := ⟨kWs_of 325 rfl rfl, kWs_of 323 (by decide +kernel) rfl, kWs_of 324 (by decide +kernel) rfl, kWs_of 2 (by decide +kernel) rfl⟩
set_option maxRecDepth 100000 in
theorem mw_X3_isOpenWidow : Cond.code yX3_isOpenWidow cX3_isOpenWidow 1 (some .boolean) ∈ kWs ∧ Cond.instanceMethod yX3_isOpenWidow ∈ kWs ∧ Cond.selects RX3 yX3_isOpenWidow yX3_isOpenWidow ∈ kWs ∧ Cond.initialized RX3 ∈ kWs := ⟨kWs_of 329 rfl rfl, kWs_of 327 (by decide +kernel) rfl, kWs_of 328 (by decide +kernel) rfl, kWs_of 4 (by decide +kernel) rfl⟩
set_option maxRecDepth 100000 in
theorem mw_X6_cell : Cond.code yX6_cell cX6_cell 4 (some .int) ∈ kWs ∧ Cond.instanceMethod yX6_cell ∈ kWs ∧ Cond.selects RX6 yX6_cell yX6_cell ∈ kWs ∧ Cond.initialized RX6 ∈ kWs := ⟨kWs_of 342 rfl rfl, kWs_of 340 (by decide +kernel) rfl, kWs_of 341 (by decide +kernel) rfl, kWs_of 1 (by decide +kernel) rfl⟩
set_option maxRecDepth 100000 in
theorem mw_X6_isCell : Cond.code yX6_isCell cX6_isCell 1 (some .boolean) ∈ kWs ∧ Cond.static yX6_isCell ∈ kWs ∧ Cond.initialized RX6 ∈ kWs := ⟨kWs_of 345 rfl rfl, kWs_of 344 (by decide +kernel) rfl, kWs_of 1 (by decide +kernel) rfl⟩
set_option maxRecDepth 100000 in
theorem mw_X4_seersOf : Cond.code yX4_seersOf cX4_seersOf 6 (some .int) ∈ kWs ∧ Cond.instanceMethod yX4_seersOf ∈ kWs ∧ Cond.selects RX4 yX4_seersOf yX4_seersOf ∈ kWs ∧ Cond.initialized RX4 ∈ kWs := ⟨kWs_of 349 rfl rfl, kWs_of 347 (by decide +kernel) rfl, kWs_of 348 (by decide +kernel) rfl, kWs_of 2 (by decide +kernel) rfl⟩
set_option maxRecDepth 100000 in
theorem mw_X3_isOpen : Cond.code yX3_isOpen cX3_isOpen 1 (some .boolean) ∈ kWs ∧ Cond.instanceMethod yX3_isOpen ∈ kWs ∧ Cond.selects RX3 yX3_isOpen yX3_isOpen ∈ kWs ∧ Cond.initialized RX3 ∈ kWs := ⟨kWs_of 272 rfl rfl, kWs_of 270 (by decide +kernel) rfl, kWs_of 271 (by decide +kernel) rfl, kWs_of 4 (by decide +kernel) rfl⟩
set_option maxRecDepth 100000 in
theorem mw_X0_placeSeenAt : Cond.code yX0_placeSeenAt cX0_placeSeenAt 3 (some .int) ∈ kWs ∧ Cond.instanceMethod yX0_placeSeenAt ∈ kWs ∧ Cond.selects RX0 yX0_placeSeenAt yX0_placeSeenAt ∈ kWs ∧ Cond.initialized RX0 ∈ kWs := ⟨kWs_of 260 rfl rfl, kWs_of 258 (by decide +kernel) rfl, kWs_of 259 (by decide +kernel) rfl, kWs_of 3 (by decide +kernel) rfl⟩
set_option maxRecDepth 100000 in
theorem mw_X4_writersOf : Cond.code yX4_writersOf cX4_writersOf 4 (some .int) ∈ kWs ∧ Cond.instanceMethod yX4_writersOf ∈ kWs ∧ Cond.selects RX4 yX4_writersOf yX4_writersOf ∈ kWs ∧ Cond.initialized RX4 ∈ kWs := ⟨kWs_of 354 rfl rfl, kWs_of 352 (by decide +kernel) rfl, kWs_of 353 (by decide +kernel) rfl, kWs_of 2 (by decide +kernel) rfl⟩
set_option maxRecDepth 100000 in
theorem mw_X3_hasWrite : Cond.code yX3_hasWrite cX3_hasWrite 2 (some .boolean) ∈ kWs ∧ Cond.instanceMethod yX3_hasWrite ∈ kWs ∧ Cond.selects RX3 yX3_hasWrite yX3_hasWrite ∈ kWs ∧ Cond.initialized RX3 ∈ kWs := ⟨kWs_of 293 rfl rfl, kWs_of 291 (by decide +kernel) rfl, kWs_of 292 (by decide +kernel) rfl, kWs_of 4 (by decide +kernel) rfl⟩
set_option maxRecDepth 100000 in
theorem mw_X6_version : Cond.code yX6_version cX6_version 5 (some .int) ∈ kWs ∧ Cond.instanceMethod yX6_version ∈ kWs ∧ Cond.selects RX6 yX6_version yX6_version ∈ kWs ∧ Cond.initialized RX6 ∈ kWs := ⟨kWs_of 358 rfl rfl, kWs_of 356 (by decide +kernel) rfl, kWs_of 357 (by decide +kernel) rfl, kWs_of 1 (by decide +kernel) rfl⟩
set_option maxRecDepth 100000 in
theorem mw_X4_payersOf : Cond.code yX4_payersOf cX4_payersOf 6 (some .int) ∈ kWs ∧ Cond.instanceMethod yX4_payersOf ∈ kWs ∧ Cond.selects RX4 yX4_payersOf yX4_payersOf ∈ kWs ∧ Cond.initialized RX4 ∈ kWs := ⟨kWs_of 268 rfl rfl, kWs_of 266 (by decide +kernel) rfl, kWs_of 267 (by decide +kernel) rfl, kWs_of 2 (by decide +kernel) rfl⟩
set_option maxRecDepth 100000 in
theorem mw_X3_paysRent : Cond.code yX3_paysRent cX3_paysRent 1 (some .boolean) ∈ kWs ∧ Cond.instanceMethod yX3_paysRent ∈ kWs ∧ Cond.selects RX3 yX3_paysRent yX3_paysRent ∈ kWs ∧ Cond.initialized RX3 ∈ kWs := ⟨kWs_of 256 rfl rfl, kWs_of 254 (by decide +kernel) rfl, kWs_of 255 (by decide +kernel) rfl, kWs_of 4 (by decide +kernel) rfl⟩
set_option maxRecDepth 100000 in
theorem mw_X4_shareOf : Cond.code yX4_shareOf cX4_shareOf 4 (some .int) ∈ kWs ∧ Cond.instanceMethod yX4_shareOf ∈ kWs ∧ Cond.selects RX4 yX4_shareOf yX4_shareOf ∈ kWs ∧ Cond.initialized RX4 ∈ kWs := ⟨kWs_of 264 rfl rfl, kWs_of 262 (by decide +kernel) rfl, kWs_of 263 (by decide +kernel) rfl, kWs_of 2 (by decide +kernel) rfl⟩
set_option maxRecDepth 100000 in
theorem mw_X6_reader : Cond.code yX6_reader cX6_reader 4 (some .int) ∈ kWs ∧ Cond.instanceMethod yX6_reader ∈ kWs ∧ Cond.selects RX6 yX6_reader yX6_reader ∈ kWs ∧ Cond.initialized RX6 ∈ kWs := ⟨kWs_of 244 rfl rfl, kWs_of 242 (by decide +kernel) rfl, kWs_of 243 (by decide +kernel) rfl, kWs_of 1 (by decide +kernel) rfl⟩
set_option maxRecDepth 100000 in
theorem mw_X4_hasReader : Cond.code yX4_hasReader cX4_hasReader 2 (some .boolean) ∈ kWs ∧ Cond.instanceMethod yX4_hasReader ∈ kWs ∧ Cond.selects RX4 yX4_hasReader yX4_hasReader ∈ kWs ∧ Cond.initialized RX4 ∈ kWs := ⟨kWs_of 248 rfl rfl, kWs_of 246 (by decide +kernel) rfl, kWs_of 247 (by decide +kernel) rfl, kWs_of 2 (by decide +kernel) rfl⟩
set_option maxRecDepth 100000 in
theorem mw_X4_dueOf : Cond.code yX4_dueOf cX4_dueOf 4 (some .int) ∈ kWs ∧ Cond.instanceMethod yX4_dueOf ∈ kWs ∧ Cond.selects RX4 yX4_dueOf yX4_dueOf ∈ kWs ∧ Cond.initialized RX4 ∈ kWs := ⟨kWs_of 252 rfl rfl, kWs_of 250 (by decide +kernel) rfl, kWs_of 251 (by decide +kernel) rfl, kWs_of 2 (by decide +kernel) rfl⟩
set_option maxRecDepth 100000 in
theorem mw_X4_oldVersionsSeenBy : Cond.code yX4_oldVersionsSeenBy cX4_oldVersionsSeenBy 4 (some .int) ∈ kWs ∧ Cond.instanceMethod yX4_oldVersionsSeenBy ∈ kWs ∧ Cond.selects RX4 yX4_oldVersionsSeenBy yX4_oldVersionsSeenBy ∈ kWs ∧ Cond.initialized RX4 ∈ kWs := ⟨kWs_of 276 rfl rfl, kWs_of 274 (by decide +kernel) rfl, kWs_of 275 (by decide +kernel) rfl, kWs_of 2 (by decide +kernel) rfl⟩
set_option maxRecDepth 100000 in
theorem mw_X4_sumSeenBy : Cond.code yX4_sumSeenBy cX4_sumSeenBy 4 (some .int) ∈ kWs ∧ Cond.instanceMethod yX4_sumSeenBy ∈ kWs ∧ Cond.selects RX4 yX4_sumSeenBy yX4_sumSeenBy ∈ kWs ∧ Cond.initialized RX4 ∈ kWs := ⟨kWs_of 280 rfl rfl, kWs_of 278 (by decide +kernel) rfl, kWs_of 279 (by decide +kernel) rfl, kWs_of 2 (by decide +kernel) rfl⟩
set_option maxRecDepth 100000 in
theorem mw_X0_valueSeenAt : Cond.code yX0_valueSeenAt cX0_valueSeenAt 3 (some .int) ∈ kWs ∧ Cond.instanceMethod yX0_valueSeenAt ∈ kWs ∧ Cond.selects RX0 yX0_valueSeenAt yX0_valueSeenAt ∈ kWs ∧ Cond.initialized RX0 ∈ kWs := ⟨kWs_of 284 rfl rfl, kWs_of 282 (by decide +kernel) rfl, kWs_of 283 (by decide +kernel) rfl, kWs_of 3 (by decide +kernel) rfl⟩
set_option maxRecDepth 100000 in
theorem mw_X4_hasConflict : Cond.code yX4_hasConflict cX4_hasConflict 3 (some .boolean) ∈ kWs ∧ Cond.instanceMethod yX4_hasConflict ∈ kWs ∧ Cond.selects RX4 yX4_hasConflict yX4_hasConflict ∈ kWs ∧ Cond.initialized RX4 ∈ kWs := ⟨kWs_of 289 rfl rfl, kWs_of 287 (by decide +kernel) rfl, kWs_of 288 (by decide +kernel) rfl, kWs_of 2 (by decide +kernel) rfl⟩
set_option maxRecDepth 100000 in
theorem mw_X4_skewsOf : Cond.code yX4_skewsOf cX4_skewsOf 4 (some .int) ∈ kWs ∧ Cond.instanceMethod yX4_skewsOf ∈ kWs ∧ Cond.selects RX4 yX4_skewsOf yX4_skewsOf ∈ kWs ∧ Cond.initialized RX4 ∈ kWs := ⟨kWs_of 297 rfl rfl, kWs_of 295 (by decide +kernel) rfl, kWs_of 296 (by decide +kernel) rfl, kWs_of 2 (by decide +kernel) rfl⟩
set_option maxRecDepth 100000 in
theorem mw_X1_isInSkewWithLater : Cond.code yX1_isInSkewWithLater cX1_isInSkewWithLater 2 (some .boolean) ∈ kWs ∧ Cond.instanceMethod yX1_isInSkewWithLater ∈ kWs ∧ Cond.selects RX1 yX1_isInSkewWithLater yX1_isInSkewWithLater ∈ kWs ∧ Cond.initialized RX1 ∈ kWs := ⟨kWs_of 301 rfl rfl, kWs_of 299 (by decide +kernel) rfl, kWs_of 300 (by decide +kernel) rfl, kWs_of 5 (by decide +kernel) rfl⟩
set_option maxRecDepth 100000 in
theorem mw_X6_committed : Cond.code yX6_committed cX6_committed 4 (some .int) ∈ kWs ∧ Cond.instanceMethod yX6_committed ∈ kWs ∧ Cond.selects RX6 yX6_committed yX6_committed ∈ kWs ∧ Cond.initialized RX6 ∈ kWs := ⟨kWs_of 364 rfl rfl, kWs_of 362 (by decide +kernel) rfl, kWs_of 363 (by decide +kernel) rfl, kWs_of 1 (by decide +kernel) rfl⟩
set_option maxRecDepth 100000 in
theorem mw_L_seen : Cond.code yL_seen cL_seen 2 (some .int) ∈ kWs ∧ Cond.static yL_seen ∈ kWs ∧ Cond.initialized RL ∈ kWs := ⟨kWs_of 522 rfl rfl, kWs_of 521 (by decide +kernel) rfl, kWs_of 0 (by decide +kernel) rfl⟩
set_option maxRecDepth 100000 in
theorem mw_L_turn : Cond.code yL_turn cL_turn 5 (some .int) ∈ kWs ∧ Cond.static yL_turn ∈ kWs ∧ Cond.initialized RL ∈ kWs := ⟨kWs_of 367 rfl rfl, kWs_of 366 (by decide +kernel) rfl, kWs_of 0 (by decide +kernel) rfl⟩
set_option maxRecDepth 100000 in
theorem mw_L_up : Cond.code yL_up cL_up 2 (some .int) ∈ kWs ∧ Cond.static yL_up ∈ kWs ∧ Cond.initialized RL ∈ kWs := ⟨kWs_of 370 rfl rfl, kWs_of 369 (by decide +kernel) rfl, kWs_of 0 (by decide +kernel) rfl⟩
set_option maxRecDepth 100000 in
theorem mw_X6_open : Cond.code yX6_open cX6_open 2 (some .int) ∈ kWs ∧ Cond.instanceMethod yX6_open ∈ kWs ∧ Cond.selects RX6 yX6_open yX6_open ∈ kWs ∧ Cond.initialized RX6 ∈ kWs := ⟨kWs_of 375 rfl rfl, kWs_of 373 (by decide +kernel) rfl, kWs_of 374 (by decide +kernel) rfl, kWs_of 1 (by decide +kernel) rfl⟩
set_option maxRecDepth 100000 in
theorem mw_X2_record : Cond.code yX2_record cX2_record 2 none ∈ kWs ∧ Cond.instanceMethod yX2_record ∈ kWs ∧ Cond.selects RX2 yX2_record yX2_record ∈ kWs ∧ Cond.initialized RX2 ∈ kWs := ⟨kWs_of 379 rfl rfl, kWs_of 377 (by decide +kernel) rfl, kWs_of 378 (by decide +kernel) rfl, kWs_of 6 (by decide +kernel) rfl⟩
set_option maxRecDepth 100000 in
theorem mw_X2_dropOldest : Cond.code yX2_dropOldest cX2_dropOldest 3 none ∈ kWs ∧ Cond.instanceMethod yX2_dropOldest ∈ kWs ∧ Cond.selects RX2 yX2_dropOldest yX2_dropOldest ∈ kWs ∧ Cond.initialized RX2 ∈ kWs := ⟨kWs_of 383 rfl rfl, kWs_of 382 (by decide +kernel) rfl, kWs_pr 0 (by decide +kernel), kWs_of 6 (by decide +kernel) rfl⟩
set_option maxRecDepth 100000 in
theorem mw_X4_copyFrom : Cond.code yX4_copyFrom cX4_copyFrom 3 none ∈ kWs ∧ Cond.instanceMethod yX4_copyFrom ∈ kWs ∧ Cond.selects RX4 yX4_copyFrom yX4_copyFrom ∈ kWs ∧ Cond.initialized RX4 ∈ kWs := ⟨kWs_of 387 rfl rfl, kWs_of 385 (by decide +kernel) rfl, kWs_of 386 (by decide +kernel) rfl, kWs_of 2 (by decide +kernel) rfl⟩
set_option maxRecDepth 100000 in
theorem mw_X0_copyFrom : Cond.code yX0_copyFrom cX0_copyFrom 2 none ∈ kWs ∧ Cond.instanceMethod yX0_copyFrom ∈ kWs ∧ Cond.selects RX0 yX0_copyFrom yX0_copyFrom ∈ kWs ∧ Cond.initialized RX0 ∈ kWs := ⟨kWs_of 391 rfl rfl, kWs_of 389 (by decide +kernel) rfl, kWs_of 390 (by decide +kernel) rfl, kWs_of 3 (by decide +kernel) rfl⟩
set_option maxRecDepth 100000 in
theorem mw_X3_copyFrom : Cond.code yX3_copyFrom cX3_copyFrom 2 none ∈ kWs ∧ Cond.instanceMethod yX3_copyFrom ∈ kWs ∧ Cond.selects RX3 yX3_copyFrom yX3_copyFrom ∈ kWs ∧ Cond.initialized RX3 ∈ kWs := ⟨kWs_of 398 rfl rfl, kWs_of 396 (by decide +kernel) rfl, kWs_of 397 (by decide +kernel) rfl, kWs_of 4 (by decide +kernel) rfl⟩
set_option maxRecDepth 100000 in
theorem mw_X1_copyFrom : Cond.code yX1_copyFrom cX1_copyFrom 2 none ∈ kWs ∧ Cond.instanceMethod yX1_copyFrom ∈ kWs ∧ Cond.selects RX1 yX1_copyFrom yX1_copyFrom ∈ kWs ∧ Cond.initialized RX1 ∈ kWs := ⟨kWs_of 403 rfl rfl, kWs_of 401 (by decide +kernel) rfl, kWs_of 402 (by decide +kernel) rfl, kWs_of 5 (by decide +kernel) rfl⟩
set_option maxRecDepth 100000 in
theorem mw_X4_addReader : Cond.code yX4_addReader cX4_addReader 3 (some .int) ∈ kWs ∧ Cond.instanceMethod yX4_addReader ∈ kWs ∧ Cond.selects RX4 yX4_addReader yX4_addReader ∈ kWs ∧ Cond.initialized RX4 ∈ kWs := ⟨kWs_of 407 rfl rfl, kWs_of 405 (by decide +kernel) rfl, kWs_of 406 (by decide +kernel) rfl, kWs_of 2 (by decide +kernel) rfl⟩
set_option maxRecDepth 100000 in
theorem mw_X3_begin : Cond.code yX3_begin cX3_begin 3 none ∈ kWs ∧ Cond.instanceMethod yX3_begin ∈ kWs ∧ Cond.selects RX3 yX3_begin yX3_begin ∈ kWs ∧ Cond.initialized RX3 ∈ kWs := ⟨kWs_of 411 rfl rfl, kWs_of 409 (by decide +kernel) rfl, kWs_of 410 (by decide +kernel) rfl, kWs_of 4 (by decide +kernel) rfl⟩
set_option maxRecDepth 100000 in
theorem mw_X6_pay : Cond.code yX6_pay cX6_pay 4 (some .int) ∈ kWs ∧ Cond.instanceMethod yX6_pay ∈ kWs ∧ Cond.selects RX6 yX6_pay yX6_pay ∈ kWs ∧ Cond.initialized RX6 ∈ kWs := ⟨kWs_of 415 rfl rfl, kWs_of 413 (by decide +kernel) rfl, kWs_of 414 (by decide +kernel) rfl, kWs_of 1 (by decide +kernel) rfl⟩
set_option maxRecDepth 100000 in
theorem mw_X6_widow : Cond.code yX6_widow cX6_widow 5 (some .int) ∈ kWs ∧ Cond.instanceMethod yX6_widow ∈ kWs ∧ Cond.selects RX6 yX6_widow yX6_widow ∈ kWs ∧ Cond.initialized RX6 ∈ kWs := ⟨kWs_of 419 rfl rfl, kWs_of 417 (by decide +kernel) rfl, kWs_of 418 (by decide +kernel) rfl, kWs_of 1 (by decide +kernel) rfl⟩
set_option maxRecDepth 100000 in
theorem mw_X6_close : Cond.code yX6_close cX6_close 3 (some .int) ∈ kWs ∧ Cond.instanceMethod yX6_close ∈ kWs ∧ Cond.selects RX6 yX6_close yX6_close ∈ kWs ∧ Cond.initialized RX6 ∈ kWs := ⟨kWs_of 423 rfl rfl, kWs_of 421 (by decide +kernel) rfl, kWs_of 422 (by decide +kernel) rfl, kWs_of 1 (by decide +kernel) rfl⟩
set_option maxRecDepth 100000 in
theorem mw_X4_removeUnseen : Cond.code yX4_removeUnseen cX4_removeUnseen 3 (some .int) ∈ kWs ∧ Cond.instanceMethod yX4_removeUnseen ∈ kWs ∧ Cond.selects RX4 yX4_removeUnseen yX4_removeUnseen ∈ kWs ∧ Cond.initialized RX4 ∈ kWs := ⟨kWs_of 427 rfl rfl, kWs_of 425 (by decide +kernel) rfl, kWs_of 426 (by decide +kernel) rfl, kWs_of 2 (by decide +kernel) rfl⟩
set_option maxRecDepth 100000 in
theorem mw_X4_placesSeen : Cond.code yX4_placesSeen cX4_placesSeen 6 (some .int) ∈ kWs ∧ Cond.instanceMethod yX4_placesSeen ∈ kWs ∧ Cond.selects RX4 yX4_placesSeen yX4_placesSeen ∈ kWs ∧ Cond.initialized RX4 ∈ kWs := ⟨kWs_of 431 rfl rfl, kWs_of 429 (by decide +kernel) rfl, kWs_of 430 (by decide +kernel) rfl, kWs_of 2 (by decide +kernel) rfl⟩
set_option maxRecDepth 100000 in
theorem mw_X0_retainOld : Cond.code yX0_retainOld cX0_retainOld 4 (some .int) ∈ kWs ∧ Cond.instanceMethod yX0_retainOld ∈ kWs ∧ Cond.selects RX0 yX0_retainOld yX0_retainOld ∈ kWs ∧ Cond.initialized RX0 ∈ kWs := ⟨kWs_of 435 rfl rfl, kWs_of 433 (by decide +kernel) rfl, kWs_of 434 (by decide +kernel) rfl, kWs_of 3 (by decide +kernel) rfl⟩
set_option maxRecDepth 100000 in
theorem mw_X6_setRent : Cond.code yX6_setRent cX6_setRent 3 (some .int) ∈ kWs ∧ Cond.instanceMethod yX6_setRent ∈ kWs ∧ Cond.selects RX6 yX6_setRent yX6_setRent ∈ kWs ∧ Cond.initialized RX6 ∈ kWs := ⟨kWs_of 439 rfl rfl, kWs_of 437 (by decide +kernel) rfl, kWs_of 438 (by decide +kernel) rfl, kWs_of 1 (by decide +kernel) rfl⟩
set_option maxRecDepth 100000 in
theorem mw_X6_forbidSkew : Cond.code yX6_forbidSkew cX6_forbidSkew 2 (some .int) ∈ kWs ∧ Cond.instanceMethod yX6_forbidSkew ∈ kWs ∧ Cond.selects RX6 yX6_forbidSkew yX6_forbidSkew ∈ kWs ∧ Cond.initialized RX6 ∈ kWs := ⟨kWs_of 443 rfl rfl, kWs_of 441 (by decide +kernel) rfl, kWs_of 442 (by decide +kernel) rfl, kWs_of 1 (by decide +kernel) rfl⟩
set_option maxRecDepth 100000 in
theorem mw_X6_tick : Cond.code yX6_tick cX6_tick 3 (some .int) ∈ kWs ∧ Cond.instanceMethod yX6_tick ∈ kWs ∧ Cond.selects RX6 yX6_tick yX6_tick ∈ kWs ∧ Cond.initialized RX6 ∈ kWs := ⟨kWs_of 447 rfl rfl, kWs_of 445 (by decide +kernel) rfl, kWs_of 446 (by decide +kernel) rfl, kWs_of 1 (by decide +kernel) rfl⟩
set_option maxRecDepth 100000 in
theorem mw_X4_letTicksPass : Cond.code yX4_letTicksPass cX4_letTicksPass 7 none ∈ kWs ∧ Cond.instanceMethod yX4_letTicksPass ∈ kWs ∧ Cond.selects RX4 yX4_letTicksPass yX4_letTicksPass ∈ kWs ∧ Cond.initialized RX4 ∈ kWs := ⟨kWs_of 451 rfl rfl, kWs_of 449 (by decide +kernel) rfl, kWs_of 450 (by decide +kernel) rfl, kWs_of 2 (by decide +kernel) rfl⟩
set_option maxRecDepth 100000 in
theorem mw_X4_tellDues : Cond.code yX4_tellDues cX4_tellDues 2 none ∈ kWs ∧ Cond.instanceMethod yX4_tellDues ∈ kWs ∧ Cond.selects RX4 yX4_tellDues yX4_tellDues ∈ kWs ∧ Cond.initialized RX4 ∈ kWs := ⟨kWs_of 455 rfl rfl, kWs_of 453 (by decide +kernel) rfl, kWs_of 454 (by decide +kernel) rfl, kWs_of 2 (by decide +kernel) rfl⟩
set_option maxRecDepth 100000 in
theorem mw_X4_takeDues : Cond.code yX4_takeDues cX4_takeDues 4 (some .boolean) ∈ kWs ∧ Cond.instanceMethod yX4_takeDues ∈ kWs ∧ Cond.selects RX4 yX4_takeDues yX4_takeDues ∈ kWs ∧ Cond.initialized RX4 ∈ kWs := ⟨kWs_of 460 rfl rfl, kWs_of 458 (by decide +kernel) rfl, kWs_of 459 (by decide +kernel) rfl, kWs_of 2 (by decide +kernel) rfl⟩
set_option maxRecDepth 100000 in
theorem mw_X4_shortenTerms : Cond.code yX4_shortenTerms cX4_shortenTerms 4 (some .boolean) ∈ kWs ∧ Cond.instanceMethod yX4_shortenTerms ∈ kWs ∧ Cond.selects RX4 yX4_shortenTerms yX4_shortenTerms ∈ kWs ∧ Cond.initialized RX4 ∈ kWs := ⟨kWs_of 464 rfl rfl, kWs_of 462 (by decide +kernel) rfl, kWs_of 463 (by decide +kernel) rfl, kWs_of 2 (by decide +kernel) rfl⟩
set_option maxRecDepth 100000 in
theorem mw_X6_read : Cond.code yX6_read cX6_read 4 (some .int) ∈ kWs ∧ Cond.instanceMethod yX6_read ∈ kWs ∧ Cond.selects RX6 yX6_read yX6_read ∈ kWs ∧ Cond.initialized RX6 ∈ kWs := ⟨kWs_of 470 rfl rfl, kWs_of 468 (by decide +kernel) rfl, kWs_of 469 (by decide +kernel) rfl, kWs_of 1 (by decide +kernel) rfl⟩
set_option maxRecDepth 100000 in
theorem mw_X6_write : Cond.code yX6_write cX6_write 5 (some .int) ∈ kWs ∧ Cond.instanceMethod yX6_write ∈ kWs ∧ Cond.selects RX6 yX6_write yX6_write ∈ kWs ∧ Cond.initialized RX6 ∈ kWs := ⟨kWs_of 476 rfl rfl, kWs_of 474 (by decide +kernel) rfl, kWs_of 475 (by decide +kernel) rfl, kWs_of 1 (by decide +kernel) rfl⟩
set_option maxRecDepth 100000 in
theorem mw_X3_putWrite : Cond.code yX3_putWrite cX3_putWrite 3 none ∈ kWs ∧ Cond.instanceMethod yX3_putWrite ∈ kWs ∧ Cond.selects RX3 yX3_putWrite yX3_putWrite ∈ kWs ∧ Cond.initialized RX3 ∈ kWs := ⟨kWs_of 480 rfl rfl, kWs_of 478 (by decide +kernel) rfl, kWs_of 479 (by decide +kernel) rfl, kWs_of 4 (by decide +kernel) rfl⟩
set_option maxRecDepth 100000 in
theorem mw_X3_numberOfWrites : Cond.code yX3_numberOfWrites cX3_numberOfWrites 1 (some .int) ∈ kWs ∧ Cond.instanceMethod yX3_numberOfWrites ∈ kWs ∧ Cond.selects RX3 yX3_numberOfWrites yX3_numberOfWrites ∈ kWs ∧ Cond.initialized RX3 ∈ kWs := ⟨kWs_of 484 rfl rfl, kWs_of 482 (by decide +kernel) rfl, kWs_of 483 (by decide +kernel) rfl, kWs_of 4 (by decide +kernel) rfl⟩
set_option maxRecDepth 100000 in
theorem mw_J6_bitCount_0f7a4 : Cond.code yJ6_bitCount_0f7a4 cJ6_bitCount_0f7a4 1 (some .int) ∈ kWs ∧ Cond.static yJ6_bitCount_0f7a4 ∈ kWs ∧ Cond.initialized RJ6 ∈ kWs := ⟨kWs_of 487 rfl rfl, kWs_of 486 (by decide +kernel) rfl, kWs_of 9 (by decide +kernel) rfl⟩
set_option maxRecDepth 100000 in
theorem mw_X6_commit : Cond.code yX6_commit cX6_commit 3 (some .int) ∈ kWs ∧ Cond.instanceMethod yX6_commit ∈ kWs ∧ Cond.selects RX6 yX6_commit yX6_commit ∈ kWs ∧ Cond.initialized RX6 ∈ kWs := ⟨kWs_of 494 rfl rfl, kWs_of 492 (by decide +kernel) rfl, kWs_of 493 (by decide +kernel) rfl, kWs_of 1 (by decide +kernel) rfl⟩
set_option maxRecDepth 100000 in
theorem mw_X4_oldVersionsWithout : Cond.code yX4_oldVersionsWithout cX4_oldVersionsWithout 6 (some .int) ∈ kWs ∧ Cond.instanceMethod yX4_oldVersionsWithout ∈ kWs ∧ Cond.selects RX4 yX4_oldVersionsWithout yX4_oldVersionsWithout ∈ kWs ∧ Cond.initialized RX4 ∈ kWs := ⟨kWs_of 498 rfl rfl, kWs_of 496 (by decide +kernel) rfl, kWs_of 497 (by decide +kernel) rfl, kWs_of 2 (by decide +kernel) rfl⟩
set_option maxRecDepth 100000 in
theorem mw_X4_land : Cond.code yX4_land cX4_land 3 none ∈ kWs ∧ Cond.instanceMethod yX4_land ∈ kWs ∧ Cond.selects RX4 yX4_land yX4_land ∈ kWs ∧ Cond.initialized RX4 ∈ kWs := ⟨kWs_of 503 rfl rfl, kWs_of 501 (by decide +kernel) rfl, kWs_of 502 (by decide +kernel) rfl, kWs_of 2 (by decide +kernel) rfl⟩
set_option maxRecDepth 100000 in
theorem mw_X4_noteCommit : Cond.code yX4_noteCommit cX4_noteCommit 4 none ∈ kWs ∧ Cond.instanceMethod yX4_noteCommit ∈ kWs ∧ Cond.selects RX4 yX4_noteCommit yX4_noteCommit ∈ kWs ∧ Cond.initialized RX4 ∈ kWs := ⟨kWs_of 507 rfl rfl, kWs_of 506 (by decide +kernel) rfl, kWs_pr 1 (by decide +kernel), kWs_of 2 (by decide +kernel) rfl⟩
set_option maxRecDepth 100000 in
theorem mw_X4_pushWrites : Cond.code yX4_pushWrites cX4_pushWrites 3 none ∈ kWs ∧ Cond.instanceMethod yX4_pushWrites ∈ kWs ∧ Cond.selects RX4 yX4_pushWrites yX4_pushWrites ∈ kWs ∧ Cond.initialized RX4 ∈ kWs := ⟨kWs_of 512 rfl rfl, kWs_of 511 (by decide +kernel) rfl, kWs_pr 2 (by decide +kernel), kWs_of 2 (by decide +kernel) rfl⟩
set_option maxRecDepth 100000 in
theorem mw_X0_push : Cond.code yX0_push cX0_push 3 none ∈ kWs ∧ Cond.instanceMethod yX0_push ∈ kWs ∧ Cond.selects RX0 yX0_push yX0_push ∈ kWs ∧ Cond.initialized RX0 ∈ kWs := ⟨kWs_of 516 rfl rfl, kWs_of 514 (by decide +kernel) rfl, kWs_of 515 (by decide +kernel) rfl, kWs_of 3 (by decide +kernel) rfl⟩
set_option maxRecDepth 100000 in
theorem mw_L_any : Cond.code yL_any cL_any 3 (some .int) ∈ kWs ∧ Cond.static yL_any ∈ kWs ∧ Cond.initialized RL ∈ kWs := ⟨kWs_of 519 rfl rfl, kWs_of 518 (by decide +kernel) rfl, kWs_of 0 (by decide +kernel) rfl⟩
set_option maxRecDepth 100000 in
theorem mw_L_putBy : Cond.code yL_putBy cL_putBy 4 (some .long) ∈ kWs ∧ Cond.static yL_putBy ∈ kWs ∧ Cond.initialized RL ∈ kWs := ⟨kWs_of 531 rfl rfl, kWs_of 530 (by decide +kernel) rfl, kWs_of 0 (by decide +kernel) rfl⟩
set_option maxRecDepth 100000 in
theorem mw_L_isUndone : Cond.code yL_isUndone cL_isUndone 10 (some .boolean) ∈ kWs ∧ Cond.static yL_isUndone ∈ kWs ∧ Cond.initialized RL ∈ kWs := ⟨kWs_of 534 rfl rfl, kWs_of 533 (by decide +kernel) rfl, kWs_of 0 (by decide +kernel) rfl⟩
set_option maxRecDepth 100000 in
theorem mw_X6_undo : Cond.code yX6_undo cX6_undo 1 (some .int) ∈ kWs ∧ Cond.instanceMethod yX6_undo ∈ kWs ∧ Cond.selects RX6 yX6_undo yX6_undo ∈ kWs ∧ Cond.initialized RX6 ∈ kWs := ⟨kWs_of 538 rfl rfl, kWs_of 536 (by decide +kernel) rfl, kWs_of 537 (by decide +kernel) rfl, kWs_of 1 (by decide +kernel) rfl⟩
set_option maxRecDepth 100000 in
theorem mw_X2_bringBack : Cond.code yX2_bringBack cX2_bringBack 2 none ∈ kWs ∧ Cond.instanceMethod yX2_bringBack ∈ kWs ∧ Cond.selects RX2 yX2_bringBack yX2_bringBack ∈ kWs ∧ Cond.initialized RX2 ∈ kWs := ⟨kWs_of 542 rfl rfl, kWs_of 540 (by decide +kernel) rfl, kWs_of 541 (by decide +kernel) rfl, kWs_of 6 (by decide +kernel) rfl⟩
set_option maxRecDepth 100000 in
theorem mw_L_areVersions : Cond.code yL_areVersions cL_areVersions 6 (some .boolean) ∈ kWs ∧ Cond.static yL_areVersions ∈ kWs ∧ Cond.initialized RL ∈ kWs := ⟨kWs_of 525 rfl rfl, kWs_of 524 (by decide +kernel) rfl, kWs_of 0 (by decide +kernel) rfl⟩
set_option maxRecDepth 100000 in
theorem mw_L_coins : Cond.code yL_coins cL_coins 6 (some .long) ∈ kWs ∧ Cond.static yL_coins ∈ kWs ∧ Cond.initialized RL ∈ kWs := ⟨kWs_of 528 rfl rfl, kWs_of 527 (by decide +kernel) rfl, kWs_of 0 (by decide +kernel) rfl⟩
