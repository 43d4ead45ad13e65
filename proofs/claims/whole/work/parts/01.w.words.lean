/-! the words of the tables that a call may carry, and the nest mates' links -/
def kWs : List Cond := k2_sels lw_privs ++ tables_1.filter goodWord
theorem kWs_in : ∀ w ∈ kWs, w ∈ lw_tbl := fun w h => (List.mem_append.mp h).elim (fun h => List.mem_append_left _ h) (fun h => List.mem_append_right _ (List.mem_filter.mp h).1)
theorem kWs_good : ∀ w ∈ kWs, goodWord w = true := by
  intro w h
  rcases List.mem_append.mp h with h | h
  · obtain ⟨q, -, rfl⟩ := List.mem_map.mp h
    rfl
  · exact (List.mem_filter.mp h).2
theorem kWs_of {w : Cond} (i : Nat) (h : tables_1[i]? = some w) (hg : goodWord w = true) : w ∈ kWs := List.mem_append_right _ (List.mem_filter.mpr ⟨List.mem_of_getElem? h, hg⟩)
theorem kWs_pr {w : Cond} (i : Nat) (h : (k2_sels lw_privs)[i]? = some w) : w ∈ kWs := List.mem_append_left _ (List.mem_of_getElem? h)
def kNw : List Cond := [.methodLinkNest "RentedMoments$State" 37 ⟨"RentedMoments$Cell", "<init>", "()V"⟩ "RentedMoments", .fieldLinkNest "RentedMoments" 175 "RentedMoments$Cell" "values" "[I" "RentedMoments", .fieldLinkNest "RentedMoments" 176 "RentedMoments$Cell" "moments" "[I" "RentedMoments", .fieldLinkNest "RentedMoments$State" 143 "RentedMoments$Cell" "moments" "[I" "RentedMoments", .fieldLinkNest "RentedMoments$State" 98 "RentedMoments$Cell" "places" "I" "RentedMoments", .fieldLinkNest "RentedMoments" 179 "RentedMoments$Cell" "places" "I" "RentedMoments", .methodLinkNest "RentedMoments$State" 38 ⟨"RentedMoments$Reader", "<init>", "()V"⟩ "RentedMoments", .fieldLinkNest "RentedMoments" 105 "RentedMoments$Reader" "writes" "[I" "RentedMoments", .fieldLinkNest "RentedMoments$State" 185 "RentedMoments$Reader" "writes" "[I" "RentedMoments", .fieldLinkNest "RentedMoments$State" 73 "RentedMoments$Reader" "state" "I" "RentedMoments", .fieldLinkNest "RentedMoments" 79 "RentedMoments$Reader" "state" "I" "RentedMoments", .fieldLinkNest "RentedMoments$Commit" 28 "RentedMoments$Reader" "moment" "I" "RentedMoments", .fieldLinkNest "RentedMoments$State" 90 "RentedMoments$Reader" "moment" "I" "RentedMoments", .fieldLinkNest "RentedMoments" 116 "RentedMoments$Reader" "moment" "I" "RentedMoments", .fieldLinkNest "RentedMoments" 65 "RentedMoments$Reader" "purse" "I" "RentedMoments", .fieldLinkNest "RentedMoments$State" 137 "RentedMoments$Reader" "purse" "I" "RentedMoments", .fieldLinkNest "RentedMoments$Commit" 33 "RentedMoments$Reader" "readCells" "I" "RentedMoments", .fieldLinkNest "RentedMoments" 109 "RentedMoments$Reader" "readCells" "I" "RentedMoments", .fieldLinkNest "RentedMoments$State" 178 "RentedMoments$Reader" "readCells" "I" "RentedMoments", .fieldLinkNest "RentedMoments$Commit" 34 "RentedMoments$Reader" "writtenCells" "I" "RentedMoments", .fieldLinkNest "RentedMoments" 195 "RentedMoments$Reader" "writtenCells" "I" "RentedMoments", .fieldLinkNest "RentedMoments$State" 158 "RentedMoments$Reader" "writtenCells" "I" "RentedMoments", .fieldLinkNest "RentedMoments" 76 "RentedMoments$Reader" "term" "I" "RentedMoments", .fieldLinkNest "RentedMoments$State" 140 "RentedMoments$Reader" "term" "I" "RentedMoments", .fieldLinkNest "RentedMoments$State" 80 "RentedMoments$Reader" "paid" "I" "RentedMoments", .fieldLinkNest "RentedMoments" 198 "RentedMoments$Reader" "paid" "I" "RentedMoments", .fieldLinkNest "RentedMoments" 68 "RentedMoments$Reader" "wasWidow" "Z" "RentedMoments", .methodLinkNest "RentedMoments$State" 39 ⟨"RentedMoments$Commit", "<init>", "()V"⟩ "RentedMoments", .fieldLinkNest "RentedMoments" 217 "RentedMoments$Commit" "reader" "I" "RentedMoments", .fieldLinkNest "RentedMoments$State" 168 "RentedMoments$Commit" "reader" "I" "RentedMoments", .fieldLinkNest "RentedMoments" 222 "RentedMoments$Commit" "readerMoment" "I" "RentedMoments", .fieldLinkNest "RentedMoments$State" 171 "RentedMoments$Commit" "readerMoment" "I" "RentedMoments", .fieldLinkNest "RentedMoments" 225 "RentedMoments$Commit" "madeMoment" "I" "RentedMoments", .fieldLinkNest "RentedMoments$State" 174 "RentedMoments$Commit" "madeMoment" "I" "RentedMoments", .fieldLinkNest "RentedMoments" 228 "RentedMoments$Commit" "writtenCells" "I" "RentedMoments", .fieldLinkNest "RentedMoments$State" 177 "RentedMoments$Commit" "writtenCells" "I" "RentedMoments", .fieldLinkNest "RentedMoments" 229 "RentedMoments$Commit" "readCells" "I" "RentedMoments", .fieldLinkNest "RentedMoments$State" 181 "RentedMoments$Commit" "readCells" "I" "RentedMoments", .fieldLinkNest "RentedMoments" 230 "RentedMoments$Commit" "skews" "I" "RentedMoments", .fieldLinkNest "RentedMoments$State" 150 "RentedMoments$Commit" "skews" "I" "RentedMoments", .fieldLinkNest "RentedMoments" 112 "RentedMoments$State" "cells" "[LRentedMoments$Cell;" "RentedMoments", .fieldLinkNest "RentedMoments" 55 "RentedMoments$State" "readers" "[LRentedMoments$Reader;" "RentedMoments", .fieldLinkNest "RentedMoments" 213 "RentedMoments$State" "commits" "[LRentedMoments$Commit;" "RentedMoments", .fieldLinkNest "RentedMoments" 144 "RentedMoments$State" "moment" "I" "RentedMoments", .fieldLinkNest "RentedMoments" 207 "RentedMoments$State" "tickNumber" "I" "RentedMoments", .fieldLinkNest "RentedMoments" 86 "RentedMoments$State" "rent" "I" "RentedMoments", .fieldLinkNest "RentedMoments" 36 "RentedMoments$State" "readersBeen" "I" "RentedMoments", .fieldLinkNest "RentedMoments" 210 "RentedMoments$State" "commitsMade" "I" "RentedMoments", .fieldLinkNest "RentedMoments" 236 "RentedMoments$State" "removedVersions" "I" "RentedMoments", .fieldLinkNest "RentedMoments" 89 "RentedMoments$State" "skewForbidden" "Z" "RentedMoments", .fieldLinkNest "RentedMoments" 165 "RentedMoments$History" "length" "I" "RentedMoments", .methodLinkNest "RentedMoments" 31 ⟨"RentedMoments$WriteText", "<init>", "()V"⟩ "RentedMoments", .fieldLinkNest "RentedMoments" 145 "RentedMoments$WriteText" "length" "I" "RentedMoments", .fieldLinkNest "RentedMoments" 160 "RentedMoments$WriteText" "cells" "[I" "RentedMoments", .fieldLinkNest "RentedMoments" 162 "RentedMoments$WriteText" "values" "[I" "RentedMoments", .fieldLinkNest "RentedMoments" 158 "RentedMoments$WriteText" "writes" "I" "RentedMoments"]
theorem kNw_in : ∀ w ∈ kNw, w ∈ tables_1 := by
  intro w h
  rw [show kNw = [33, 38, 40, 41, 43, 44, 54, 59, 60, 62, 63, 65, 66, 67, 69, 70, 72, 73, 74, 76, 77, 78, 80, 81, 83, 84, 86, 107, 112, 113, 115, 116, 118, 119, 121, 122, 124, 125, 127, 128, 143, 145, 147, 149, 151, 153, 154, 157, 159, 161, 197, 205, 211, 213, 215, 217].filterMap (fun i => tables_1[i]?) from by decide +kernel] at h
  obtain ⟨i, -, hi⟩ := List.mem_filterMap.mp h
  exact List.mem_of_getElem? hi
theorem inK0 : ∀ w ∈ u_ws RX0 TX0 3, w ∈ kWs := by
  intro w h
  rw [show u_ws RX0 TX0 3 = [45, 47, 49].filterMap (fun i => tables_1[i]?) from by decide +kernel] at h
  obtain ⟨i, -, hi⟩ := List.mem_filterMap.mp h
  exact kWs_of i hi (List.all_eq_true.mp (show ([45, 47, 49].filterMap (fun i => tables_1[i]?)).all goodWord = true from by decide +kernel) w h)
theorem inK1 : ∀ w ∈ u_ws RX1 TX1 6, w ∈ kWs := by
  intro w h
  rw [show u_ws RX1 TX1 6 = [129, 131, 133, 135, 137, 139].filterMap (fun i => tables_1[i]?) from by decide +kernel] at h
  obtain ⟨i, -, hi⟩ := List.mem_filterMap.mp h
  exact kWs_of i hi (List.all_eq_true.mp (show ([129, 131, 133, 135, 137, 139].filterMap (fun i => tables_1[i]?)).all goodWord = true from by decide +kernel) w h)
theorem inK2 : ∀ w ∈ u_ws RX2 TX2 2, w ∈ kWs := by
  intro w h
  rw [show u_ws RX2 TX2 2 = [198, 200].filterMap (fun i => tables_1[i]?) from by decide +kernel] at h
  obtain ⟨i, -, hi⟩ := List.mem_filterMap.mp h
  exact kWs_of i hi (List.all_eq_true.mp (show ([198, 200].filterMap (fun i => tables_1[i]?)).all goodWord = true from by decide +kernel) w h)
theorem inK3 : ∀ w ∈ u_ws RX3 TX3 9, w ∈ kWs := by
  intro w h
  rw [show u_ws RX3 TX3 9 = [87, 89, 91, 93, 95, 97, 99, 101, 103].filterMap (fun i => tables_1[i]?) from by decide +kernel] at h
  obtain ⟨i, -, hi⟩ := List.mem_filterMap.mp h
  exact kWs_of i hi (List.all_eq_true.mp (show ([87, 89, 91, 93, 95, 97, 99, 101, 103].filterMap (fun i => tables_1[i]?)).all goodWord = true from by decide +kernel) w h)
theorem inK4 : ∀ w ∈ u_ws RX4 TX4 11, w ∈ kWs := by
  intro w h
  rw [show u_ws RX4 TX4 11 = [163, 165, 167, 169, 171, 173, 175, 177, 179, 181, 183].filterMap (fun i => tables_1[i]?) from by decide +kernel] at h
  obtain ⟨i, -, hi⟩ := List.mem_filterMap.mp h
  exact kWs_of i hi (List.all_eq_true.mp (show ([163, 165, 167, 169, 171, 173, 175, 177, 179, 181, 183].filterMap (fun i => tables_1[i]?)).all goodWord = true from by decide +kernel) w h)
theorem inK5 : ∀ w ∈ u_ws RX5 TX5 5, w ∈ kWs := by
  intro w h
  rw [show u_ws RX5 TX5 5 = [218, 220, 222, 224, 226].filterMap (fun i => tables_1[i]?) from by decide +kernel] at h
  obtain ⟨i, -, hi⟩ := List.mem_filterMap.mp h
  exact kWs_of i hi (List.all_eq_true.mp (show ([218, 220, 222, 224, 226].filterMap (fun i => tables_1[i]?)).all goodWord = true from by decide +kernel) w h)
theorem inK6 : ∀ w ∈ u_ws RX6 TX6 6, w ∈ kWs := by
  intro w h
  rw [show u_ws RX6 TX6 6 = [236, 238, 240, 242, 244, 246].filterMap (fun i => tables_1[i]?) from by decide +kernel] at h
  obtain ⟨i, -, hi⟩ := List.mem_filterMap.mp h
  exact kWs_of i hi (List.all_eq_true.mp (show ([236, 238, 240, 242, 244, 246].filterMap (fun i => tables_1[i]?)).all goodWord = true from by decide +kernel) w h)
theorem inK7 : ∀ w ∈ u_ws RX7 TX7 12, w ∈ kWs := by
  intro w h
  rw [show u_ws RX7 TX7 12 = [591, 593, 595, 597, 599, 601, 603, 605, 607, 609, 611, 613].filterMap (fun i => tables_1[i]?) from by decide +kernel] at h
  obtain ⟨i, -, hi⟩ := List.mem_filterMap.mp h
  exact kWs_of i hi (List.all_eq_true.mp (show ([591, 593, 595, 597, 599, 601, 603, 605, 607, 609, 611, 613].filterMap (fun i => tables_1[i]?)).all goodWord = true from by decide +kernel) w h)
set_option maxRecDepth 100000 in
theorem mw_X6_init : Cond.code yX6_init cX6_init 1 none ∈ kWs ∧ Cond.instanceMethod yX6_init ∈ kWs ∧ Cond.initialized RX6 ∈ kWs := ⟨kWs_of 16 rfl rfl, kWs_of 15 (by decide +kernel) rfl, kWs_of 1 (by decide +kernel) rfl⟩
set_option maxRecDepth 100000 in
theorem mw_X4_init : Cond.code yX4_init cX4_init 2 none ∈ kWs ∧ Cond.instanceMethod yX4_init ∈ kWs ∧ Cond.initialized RX4 ∈ kWs := ⟨kWs_of 24 rfl rfl, kWs_of 23 (by decide +kernel) rfl, kWs_of 2 (by decide +kernel) rfl⟩
set_option maxRecDepth 100000 in
theorem mw_X0_init : Cond.code yX0_init cX0_init 1 none ∈ kWs ∧ Cond.instanceMethod yX0_init ∈ kWs ∧ Cond.initialized RX0 ∈ kWs := ⟨kWs_of 35 rfl rfl, kWs_of 34 (by decide +kernel) rfl, kWs_of 3 (by decide +kernel) rfl⟩
set_option maxRecDepth 100000 in
theorem mw_X3_init : Cond.code yX3_init cX3_init 1 none ∈ kWs ∧ Cond.instanceMethod yX3_init ∈ kWs ∧ Cond.initialized RX3 ∈ kWs := ⟨kWs_of 56 rfl rfl, kWs_of 55 (by decide +kernel) rfl, kWs_of 4 (by decide +kernel) rfl⟩
set_option maxRecDepth 100000 in
theorem mw_X1_init : Cond.code yX1_init cX1_init 1 none ∈ kWs ∧ Cond.instanceMethod yX1_init ∈ kWs ∧ Cond.initialized RX1 ∈ kWs := ⟨kWs_of 109 rfl rfl, kWs_of 108 (by decide +kernel) rfl, kWs_of 5 (by decide +kernel) rfl⟩
set_option maxRecDepth 100000 in
theorem mw_X2_init : Cond.code yX2_init cX2_init 2 none ∈ kWs ∧ Cond.instanceMethod yX2_init ∈ kWs ∧ Cond.initialized RX2 ∈ kWs := ⟨kWs_of 190 rfl rfl, kWs_of 189 (by decide +kernel) rfl, kWs_of 6 (by decide +kernel) rfl⟩
set_option maxRecDepth 100000 in
theorem mw_X5_init : Cond.code yX5_init cX5_init 1 none ∈ kWs ∧ Cond.instanceMethod yX5_init ∈ kWs ∧ Cond.initialized RX5 ∈ kWs := ⟨kWs_of 207 rfl rfl, kWs_of 206 (by decide +kernel) rfl, kWs_of 7 (by decide +kernel) rfl⟩
set_option maxRecDepth 100000 in
theorem mw_X7_init : Cond.code yX7_init cX7_init 2 none ∈ kWs ∧ Cond.instanceMethod yX7_init ∈ kWs ∧ Cond.initialized RX7 ∈ kWs := ⟨kWs_of 577 rfl rfl, kWs_of 576 (by decide +kernel) rfl, kWs_of 8 (by decide +kernel) rfl⟩
set_option maxRecDepth 100000 in
theorem mw_X6_open : Cond.code yX6_open cX6_open 2 (some .int) ∈ kWs ∧ Cond.instanceMethod yX6_open ∈ kWs ∧ Cond.selects RX6 yX6_open yX6_open ∈ kWs ∧ Cond.initialized RX6 ∈ kWs := ⟨kWs_of 252 rfl rfl, kWs_of 250 (by decide +kernel) rfl, kWs_of 251 (by decide +kernel) rfl, kWs_of 1 (by decide +kernel) rfl⟩
set_option maxRecDepth 100000 in
theorem mw_X4_readersIn : Cond.code yX4_readersIn cX4_readersIn 4 (some .int) ∈ kWs ∧ Cond.instanceMethod yX4_readersIn ∈ kWs ∧ Cond.selects RX4 yX4_readersIn yX4_readersIn ∈ kWs ∧ Cond.initialized RX4 ∈ kWs := ⟨kWs_of 256 rfl rfl, kWs_of 254 (by decide +kernel) rfl, kWs_of 255 (by decide +kernel) rfl, kWs_of 2 (by decide +kernel) rfl⟩
set_option maxRecDepth 100000 in
theorem mw_X2_record : Cond.code yX2_record cX2_record 2 none ∈ kWs ∧ Cond.instanceMethod yX2_record ∈ kWs ∧ Cond.selects RX2 yX2_record yX2_record ∈ kWs ∧ Cond.initialized RX2 ∈ kWs := ⟨kWs_of 260 rfl rfl, kWs_of 258 (by decide +kernel) rfl, kWs_of 259 (by decide +kernel) rfl, kWs_of 6 (by decide +kernel) rfl⟩
set_option maxRecDepth 100000 in
theorem mw_X2_dropOldest : Cond.code yX2_dropOldest cX2_dropOldest 3 none ∈ kWs ∧ Cond.instanceMethod yX2_dropOldest ∈ kWs ∧ Cond.selects RX2 yX2_dropOldest yX2_dropOldest ∈ kWs ∧ Cond.initialized RX2 ∈ kWs := ⟨kWs_of 264 rfl rfl, kWs_of 263 (by decide +kernel) rfl, kWs_pr 0 (by decide +kernel), kWs_of 6 (by decide +kernel) rfl⟩
set_option maxRecDepth 100000 in
theorem mw_X4_copyFrom : Cond.code yX4_copyFrom cX4_copyFrom 3 none ∈ kWs ∧ Cond.instanceMethod yX4_copyFrom ∈ kWs ∧ Cond.selects RX4 yX4_copyFrom yX4_copyFrom ∈ kWs ∧ Cond.initialized RX4 ∈ kWs := ⟨kWs_of 268 rfl rfl, kWs_of 266 (by decide +kernel) rfl, kWs_of 267 (by decide +kernel) rfl, kWs_of 2 (by decide +kernel) rfl⟩
set_option maxRecDepth 100000 in
theorem mw_X0_copyFrom : Cond.code yX0_copyFrom cX0_copyFrom 2 none ∈ kWs ∧ Cond.instanceMethod yX0_copyFrom ∈ kWs ∧ Cond.selects RX0 yX0_copyFrom yX0_copyFrom ∈ kWs ∧ Cond.initialized RX0 ∈ kWs := ⟨kWs_of 272 rfl rfl, kWs_of 270 (by decide +kernel) rfl, kWs_of 271 (by decide +kernel) rfl, kWs_of 3 (by decide +kernel) rfl⟩
set_option maxRecDepth 100000 in
theorem mw_X3_copyFrom : Cond.code yX3_copyFrom cX3_copyFrom 2 none ∈ kWs ∧ Cond.instanceMethod yX3_copyFrom ∈ kWs ∧ Cond.selects RX3 yX3_copyFrom yX3_copyFrom ∈ kWs ∧ Cond.initialized RX3 ∈ kWs := ⟨kWs_of 279 rfl rfl, kWs_of 277 (by decide +kernel) rfl, kWs_of 278 (by decide +kernel) rfl, kWs_of 4 (by decide +kernel) rfl⟩
set_option maxRecDepth 100000 in
theorem mw_X1_copyFrom : Cond.code yX1_copyFrom cX1_copyFrom 2 none ∈ kWs ∧ Cond.instanceMethod yX1_copyFrom ∈ kWs ∧ Cond.selects RX1 yX1_copyFrom yX1_copyFrom ∈ kWs ∧ Cond.initialized RX1 ∈ kWs := ⟨kWs_of 284 rfl rfl, kWs_of 282 (by decide +kernel) rfl, kWs_of 283 (by decide +kernel) rfl, kWs_of 5 (by decide +kernel) rfl⟩
set_option maxRecDepth 100000 in
theorem mw_X4_addReader : Cond.code yX4_addReader cX4_addReader 3 (some .int) ∈ kWs ∧ Cond.instanceMethod yX4_addReader ∈ kWs ∧ Cond.selects RX4 yX4_addReader yX4_addReader ∈ kWs ∧ Cond.initialized RX4 ∈ kWs := ⟨kWs_of 288 rfl rfl, kWs_of 286 (by decide +kernel) rfl, kWs_of 287 (by decide +kernel) rfl, kWs_of 2 (by decide +kernel) rfl⟩
set_option maxRecDepth 100000 in
theorem mw_X3_begin : Cond.code yX3_begin cX3_begin 3 none ∈ kWs ∧ Cond.instanceMethod yX3_begin ∈ kWs ∧ Cond.selects RX3 yX3_begin yX3_begin ∈ kWs ∧ Cond.initialized RX3 ∈ kWs := ⟨kWs_of 292 rfl rfl, kWs_of 290 (by decide +kernel) rfl, kWs_of 291 (by decide +kernel) rfl, kWs_of 4 (by decide +kernel) rfl⟩
set_option maxRecDepth 100000 in
theorem mw_X7_open : Cond.code yX7_open cX7_open 4 (some .int) ∈ kWs ∧ Cond.instanceMethod yX7_open ∈ kWs ∧ Cond.selects RX7 yX7_open yX7_open ∈ kWs ∧ Cond.initialized RX7 ∈ kWs := ⟨kWs_of 643 rfl rfl, kWs_of 641 (by decide +kernel) rfl, kWs_of 642 (by decide +kernel) rfl, kWs_of 8 (by decide +kernel) rfl⟩
set_option maxRecDepth 100000 in
theorem mw_X7_isIn : Cond.code yX7_isIn cX7_isIn 3 (some .boolean) ∈ kWs ∧ Cond.static yX7_isIn ∈ kWs ∧ Cond.initialized RX7 ∈ kWs := ⟨kWs_of 646 rfl rfl, kWs_of 645 (by decide +kernel) rfl, kWs_of 8 (by decide +kernel) rfl⟩
set_option maxRecDepth 100000 in
theorem mw_X7_ofState : Cond.code yX7_ofState cX7_ofState 4 (some .int) ∈ kWs ∧ Cond.instanceMethod yX7_ofState ∈ kWs ∧ Cond.selects RX7 yX7_ofState yX7_ofState ∈ kWs ∧ Cond.initialized RX7 ∈ kWs := ⟨kWs_of 650 rfl rfl, kWs_of 649 (by decide +kernel) rfl, kWs_pr 10 (by decide +kernel), kWs_of 8 (by decide +kernel) rfl⟩
set_option maxRecDepth 100000 in
theorem mw_X7_ofR : Cond.code yX7_ofR cX7_ofR 3 (some .int) ∈ kWs ∧ Cond.instanceMethod yX7_ofR ∈ kWs ∧ Cond.selects RX7 yX7_ofR yX7_ofR ∈ kWs ∧ Cond.initialized RX7 ∈ kWs := ⟨kWs_of 654 rfl rfl, kWs_of 653 (by decide +kernel) rfl, kWs_pr 11 (by decide +kernel), kWs_of 8 (by decide +kernel) rfl⟩
set_option maxRecDepth 100000 in
theorem mw_X7_records : Cond.code yX7_records cX7_records 2 none ∈ kWs ∧ Cond.instanceMethod yX7_records ∈ kWs ∧ Cond.selects RX7 yX7_records yX7_records ∈ kWs ∧ Cond.initialized RX7 ∈ kWs := ⟨kWs_of 639 rfl rfl, kWs_of 638 (by decide +kernel) rfl, kWs_pr 9 (by decide +kernel), kWs_of 8 (by decide +kernel) rfl⟩
set_option maxRecDepth 100000 in
theorem mw_X7_keeps : Cond.code yX7_keeps cX7_keeps 3 none ∈ kWs ∧ Cond.instanceMethod yX7_keeps ∈ kWs ∧ Cond.selects RX7 yX7_keeps yX7_keeps ∈ kWs ∧ Cond.initialized RX7 ∈ kWs := ⟨kWs_of 631 rfl rfl, kWs_of 630 (by decide +kernel) rfl, kWs_pr 8 (by decide +kernel), kWs_of 8 (by decide +kernel) rfl⟩
set_option maxRecDepth 100000 in
theorem mw_X7_setsR : Cond.code yX7_setsR cX7_setsR 4 none ∈ kWs ∧ Cond.instanceMethod yX7_setsR ∈ kWs ∧ Cond.selects RX7 yX7_setsR yX7_setsR ∈ kWs ∧ Cond.initialized RX7 ∈ kWs := ⟨kWs_of 658 rfl rfl, kWs_of 657 (by decide +kernel) rfl, kWs_pr 12 (by decide +kernel), kWs_of 8 (by decide +kernel) rfl⟩
set_option maxRecDepth 100000 in
theorem mw_X6_pay : Cond.code yX6_pay cX6_pay 4 (some .int) ∈ kWs ∧ Cond.instanceMethod yX6_pay ∈ kWs ∧ Cond.selects RX6 yX6_pay yX6_pay ∈ kWs ∧ Cond.initialized RX6 ∈ kWs := ⟨kWs_of 296 rfl rfl, kWs_of 294 (by decide +kernel) rfl, kWs_of 295 (by decide +kernel) rfl, kWs_of 1 (by decide +kernel) rfl⟩
set_option maxRecDepth 100000 in
theorem mw_X4_hasReader : Cond.code yX4_hasReader cX4_hasReader 2 (some .boolean) ∈ kWs ∧ Cond.instanceMethod yX4_hasReader ∈ kWs ∧ Cond.selects RX4 yX4_hasReader yX4_hasReader ∈ kWs ∧ Cond.initialized RX4 ∈ kWs := ⟨kWs_of 300 rfl rfl, kWs_of 298 (by decide +kernel) rfl, kWs_of 299 (by decide +kernel) rfl, kWs_of 2 (by decide +kernel) rfl⟩
set_option maxRecDepth 100000 in
theorem mw_X3_isOpen : Cond.code yX3_isOpen cX3_isOpen 1 (some .boolean) ∈ kWs ∧ Cond.instanceMethod yX3_isOpen ∈ kWs ∧ Cond.selects RX3 yX3_isOpen yX3_isOpen ∈ kWs ∧ Cond.initialized RX3 ∈ kWs := ⟨kWs_of 304 rfl rfl, kWs_of 302 (by decide +kernel) rfl, kWs_of 303 (by decide +kernel) rfl, kWs_of 4 (by decide +kernel) rfl⟩
set_option maxRecDepth 100000 in
theorem mw_X7_pay : Cond.code yX7_pay cX7_pay 4 (some .int) ∈ kWs ∧ Cond.instanceMethod yX7_pay ∈ kWs ∧ Cond.selects RX7 yX7_pay yX7_pay ∈ kWs ∧ Cond.initialized RX7 ∈ kWs := ⟨kWs_of 662 rfl rfl, kWs_of 660 (by decide +kernel) rfl, kWs_of 661 (by decide +kernel) rfl, kWs_of 8 (by decide +kernel) rfl⟩
set_option maxRecDepth 100000 in
theorem mw_X7_isReader : Cond.code yX7_isReader cX7_isReader 2 (some .boolean) ∈ kWs ∧ Cond.instanceMethod yX7_isReader ∈ kWs ∧ Cond.selects RX7 yX7_isReader yX7_isReader ∈ kWs ∧ Cond.initialized RX7 ∈ kWs := ⟨kWs_of 666 rfl rfl, kWs_of 665 (by decide +kernel) rfl, kWs_pr 13 (by decide +kernel), kWs_of 8 (by decide +kernel) rfl⟩
set_option maxRecDepth 100000 in
theorem mw_X7_isOpen : Cond.code yX7_isOpen cX7_isOpen 2 (some .boolean) ∈ kWs ∧ Cond.instanceMethod yX7_isOpen ∈ kWs ∧ Cond.selects RX7 yX7_isOpen yX7_isOpen ∈ kWs ∧ Cond.initialized RX7 ∈ kWs := ⟨kWs_of 670 rfl rfl, kWs_of 669 (by decide +kernel) rfl, kWs_pr 14 (by decide +kernel), kWs_of 8 (by decide +kernel) rfl⟩
set_option maxRecDepth 100000 in
theorem mw_X6_widow : Cond.code yX6_widow cX6_widow 5 (some .int) ∈ kWs ∧ Cond.instanceMethod yX6_widow ∈ kWs ∧ Cond.selects RX6 yX6_widow yX6_widow ∈ kWs ∧ Cond.initialized RX6 ∈ kWs := ⟨kWs_of 308 rfl rfl, kWs_of 306 (by decide +kernel) rfl, kWs_of 307 (by decide +kernel) rfl, kWs_of 1 (by decide +kernel) rfl⟩
set_option maxRecDepth 100000 in
theorem mw_X4_dueOf : Cond.code yX4_dueOf cX4_dueOf 4 (some .int) ∈ kWs ∧ Cond.instanceMethod yX4_dueOf ∈ kWs ∧ Cond.selects RX4 yX4_dueOf yX4_dueOf ∈ kWs ∧ Cond.initialized RX4 ∈ kWs := ⟨kWs_of 312 rfl rfl, kWs_of 310 (by decide +kernel) rfl, kWs_of 311 (by decide +kernel) rfl, kWs_of 2 (by decide +kernel) rfl⟩
set_option maxRecDepth 100000 in
theorem mw_X3_paysRent : Cond.code yX3_paysRent cX3_paysRent 1 (some .boolean) ∈ kWs ∧ Cond.instanceMethod yX3_paysRent ∈ kWs ∧ Cond.selects RX3 yX3_paysRent yX3_paysRent ∈ kWs ∧ Cond.initialized RX3 ∈ kWs := ⟨kWs_of 316 rfl rfl, kWs_of 314 (by decide +kernel) rfl, kWs_of 315 (by decide +kernel) rfl, kWs_of 4 (by decide +kernel) rfl⟩
set_option maxRecDepth 100000 in
theorem mw_X0_placeSeenAt : Cond.code yX0_placeSeenAt cX0_placeSeenAt 3 (some .int) ∈ kWs ∧ Cond.instanceMethod yX0_placeSeenAt ∈ kWs ∧ Cond.selects RX0 yX0_placeSeenAt yX0_placeSeenAt ∈ kWs ∧ Cond.initialized RX0 ∈ kWs := ⟨kWs_of 320 rfl rfl, kWs_of 318 (by decide +kernel) rfl, kWs_of 319 (by decide +kernel) rfl, kWs_of 3 (by decide +kernel) rfl⟩
set_option maxRecDepth 100000 in
theorem mw_X4_shareOf : Cond.code yX4_shareOf cX4_shareOf 4 (some .int) ∈ kWs ∧ Cond.instanceMethod yX4_shareOf ∈ kWs ∧ Cond.selects RX4 yX4_shareOf yX4_shareOf ∈ kWs ∧ Cond.initialized RX4 ∈ kWs := ⟨kWs_of 324 rfl rfl, kWs_of 322 (by decide +kernel) rfl, kWs_of 323 (by decide +kernel) rfl, kWs_of 2 (by decide +kernel) rfl⟩
set_option maxRecDepth 100000 in
theorem mw_X4_payersOf : Cond.code yX4_payersOf cX4_payersOf 6 (some .int) ∈ kWs ∧ Cond.instanceMethod yX4_payersOf ∈ kWs ∧ Cond.selects RX4 yX4_payersOf yX4_payersOf ∈ kWs ∧ Cond.initialized RX4 ∈ kWs := ⟨kWs_of 328 rfl rfl, kWs_of 326 (by decide +kernel) rfl, kWs_of 327 (by decide +kernel) rfl, kWs_of 2 (by decide +kernel) rfl⟩
set_option maxRecDepth 100000 in
theorem mw_X7_widow : Cond.code yX7_widow cX7_widow 4 (some .int) ∈ kWs ∧ Cond.instanceMethod yX7_widow ∈ kWs ∧ Cond.selects RX7 yX7_widow yX7_widow ∈ kWs ∧ Cond.initialized RX7 ∈ kWs := ⟨kWs_of 674 rfl rfl, kWs_of 672 (by decide +kernel) rfl, kWs_of 673 (by decide +kernel) rfl, kWs_of 8 (by decide +kernel) rfl⟩
set_option maxRecDepth 100000 in
theorem mw_X7_dueOf : Cond.code yX7_dueOf cX7_dueOf 4 (some .int) ∈ kWs ∧ Cond.instanceMethod yX7_dueOf ∈ kWs ∧ Cond.selects RX7 yX7_dueOf yX7_dueOf ∈ kWs ∧ Cond.initialized RX7 ∈ kWs := ⟨kWs_of 678 rfl rfl, kWs_of 677 (by decide +kernel) rfl, kWs_pr 15 (by decide +kernel), kWs_of 8 (by decide +kernel) rfl⟩
set_option maxRecDepth 100000 in
theorem mw_X7_isWidow : Cond.code yX7_isWidow cX7_isWidow 2 (some .boolean) ∈ kWs ∧ Cond.instanceMethod yX7_isWidow ∈ kWs ∧ Cond.selects RX7 yX7_isWidow yX7_isWidow ∈ kWs ∧ Cond.initialized RX7 ∈ kWs := ⟨kWs_of 682 rfl rfl, kWs_of 681 (by decide +kernel) rfl, kWs_pr 16 (by decide +kernel), kWs_of 8 (by decide +kernel) rfl⟩
set_option maxRecDepth 100000 in
theorem mw_X7_isOld : Cond.code yX7_isOld cX7_isOld 2 (some .boolean) ∈ kWs ∧ Cond.instanceMethod yX7_isOld ∈ kWs ∧ Cond.selects RX7 yX7_isOld yX7_isOld ∈ kWs ∧ Cond.initialized RX7 ∈ kWs := ⟨kWs_of 686 rfl rfl, kWs_of 685 (by decide +kernel) rfl, kWs_pr 17 (by decide +kernel), kWs_of 8 (by decide +kernel) rfl⟩
set_option maxRecDepth 100000 in
theorem mw_X7_ofV : Cond.code yX7_ofV cX7_ofV 3 (some .int) ∈ kWs ∧ Cond.instanceMethod yX7_ofV ∈ kWs ∧ Cond.selects RX7 yX7_ofV yX7_ofV ∈ kWs ∧ Cond.initialized RX7 ∈ kWs := ⟨kWs_of 690 rfl rfl, kWs_of 689 (by decide +kernel) rfl, kWs_pr 18 (by decide +kernel), kWs_of 8 (by decide +kernel) rfl⟩
set_option maxRecDepth 100000 in
theorem mw_X7_newest : Cond.code yX7_newest cX7_newest 2 (some .int) ∈ kWs ∧ Cond.instanceMethod yX7_newest ∈ kWs ∧ Cond.selects RX7 yX7_newest yX7_newest ∈ kWs ∧ Cond.initialized RX7 ∈ kWs := ⟨kWs_of 694 rfl rfl, kWs_of 693 (by decide +kernel) rfl, kWs_pr 19 (by decide +kernel), kWs_of 8 (by decide +kernel) rfl⟩
set_option maxRecDepth 100000 in
theorem mw_X7_versionAt : Cond.code yX7_versionAt cX7_versionAt 7 (some .int) ∈ kWs ∧ Cond.instanceMethod yX7_versionAt ∈ kWs ∧ Cond.selects RX7 yX7_versionAt yX7_versionAt ∈ kWs ∧ Cond.initialized RX7 ∈ kWs := ⟨kWs_of 698 rfl rfl, kWs_of 697 (by decide +kernel) rfl, kWs_pr 20 (by decide +kernel), kWs_of 8 (by decide +kernel) rfl⟩
set_option maxRecDepth 100000 in
theorem mw_X7_sees : Cond.code yX7_sees cX7_sees 3 (some .boolean) ∈ kWs ∧ Cond.instanceMethod yX7_sees ∈ kWs ∧ Cond.selects RX7 yX7_sees yX7_sees ∈ kWs ∧ Cond.initialized RX7 ∈ kWs := ⟨kWs_of 702 rfl rfl, kWs_of 701 (by decide +kernel) rfl, kWs_pr 21 (by decide +kernel), kWs_of 8 (by decide +kernel) rfl⟩
set_option maxRecDepth 100000 in
theorem mw_X7_rentOf : Cond.code yX7_rentOf cX7_rentOf 3 (some .int) ∈ kWs ∧ Cond.instanceMethod yX7_rentOf ∈ kWs ∧ Cond.selects RX7 yX7_rentOf yX7_rentOf ∈ kWs ∧ Cond.initialized RX7 ∈ kWs := ⟨kWs_of 706 rfl rfl, kWs_of 705 (by decide +kernel) rfl, kWs_pr 22 (by decide +kernel), kWs_of 8 (by decide +kernel) rfl⟩
set_option maxRecDepth 100000 in
theorem mw_X7_seenBy : Cond.code yX7_seenBy cX7_seenBy 5 (some .int) ∈ kWs ∧ Cond.instanceMethod yX7_seenBy ∈ kWs ∧ Cond.selects RX7 yX7_seenBy yX7_seenBy ∈ kWs ∧ Cond.initialized RX7 ∈ kWs := ⟨kWs_of 710 rfl rfl, kWs_of 709 (by decide +kernel) rfl, kWs_pr 23 (by decide +kernel), kWs_of 8 (by decide +kernel) rfl⟩
set_option maxRecDepth 100000 in
theorem mw_X6_close : Cond.code yX6_close cX6_close 3 (some .int) ∈ kWs ∧ Cond.instanceMethod yX6_close ∈ kWs ∧ Cond.selects RX6 yX6_close yX6_close ∈ kWs ∧ Cond.initialized RX6 ∈ kWs := ⟨kWs_of 332 rfl rfl, kWs_of 330 (by decide +kernel) rfl, kWs_of 331 (by decide +kernel) rfl, kWs_of 1 (by decide +kernel) rfl⟩
set_option maxRecDepth 100000 in
theorem mw_X4_removeUnseen : Cond.code yX4_removeUnseen cX4_removeUnseen 3 (some .int) ∈ kWs ∧ Cond.instanceMethod yX4_removeUnseen ∈ kWs ∧ Cond.selects RX4 yX4_removeUnseen yX4_removeUnseen ∈ kWs ∧ Cond.initialized RX4 ∈ kWs := ⟨kWs_of 336 rfl rfl, kWs_of 334 (by decide +kernel) rfl, kWs_of 335 (by decide +kernel) rfl, kWs_of 2 (by decide +kernel) rfl⟩
set_option maxRecDepth 100000 in
theorem mw_X4_placesSeen : Cond.code yX4_placesSeen cX4_placesSeen 6 (some .int) ∈ kWs ∧ Cond.instanceMethod yX4_placesSeen ∈ kWs ∧ Cond.selects RX4 yX4_placesSeen yX4_placesSeen ∈ kWs ∧ Cond.initialized RX4 ∈ kWs := ⟨kWs_of 340 rfl rfl, kWs_of 338 (by decide +kernel) rfl, kWs_of 339 (by decide +kernel) rfl, kWs_of 2 (by decide +kernel) rfl⟩
set_option maxRecDepth 100000 in
theorem mw_X0_retainOld : Cond.code yX0_retainOld cX0_retainOld 4 (some .int) ∈ kWs ∧ Cond.instanceMethod yX0_retainOld ∈ kWs ∧ Cond.selects RX0 yX0_retainOld yX0_retainOld ∈ kWs ∧ Cond.initialized RX0 ∈ kWs := ⟨kWs_of 345 rfl rfl, kWs_of 343 (by decide +kernel) rfl, kWs_of 344 (by decide +kernel) rfl, kWs_of 3 (by decide +kernel) rfl⟩
set_option maxRecDepth 100000 in
theorem mw_X7_close : Cond.code yX7_close cX7_close 2 (some .int) ∈ kWs ∧ Cond.instanceMethod yX7_close ∈ kWs ∧ Cond.selects RX7 yX7_close yX7_close ∈ kWs ∧ Cond.initialized RX7 ∈ kWs := ⟨kWs_of 714 rfl rfl, kWs_of 712 (by decide +kernel) rfl, kWs_of 713 (by decide +kernel) rfl, kWs_of 8 (by decide +kernel) rfl⟩
set_option maxRecDepth 100000 in
theorem mw_X7_removes : Cond.code yX7_removes cX7_removes 4 (some .int) ∈ kWs ∧ Cond.instanceMethod yX7_removes ∈ kWs ∧ Cond.selects RX7 yX7_removes yX7_removes ∈ kWs ∧ Cond.initialized RX7 ∈ kWs := ⟨kWs_of 718 rfl rfl, kWs_of 717 (by decide +kernel) rfl, kWs_pr 24 (by decide +kernel), kWs_of 8 (by decide +kernel) rfl⟩
set_option maxRecDepth 100000 in
theorem mw_X6_setRent : Cond.code yX6_setRent cX6_setRent 3 (some .int) ∈ kWs ∧ Cond.instanceMethod yX6_setRent ∈ kWs ∧ Cond.selects RX6 yX6_setRent yX6_setRent ∈ kWs ∧ Cond.initialized RX6 ∈ kWs := ⟨kWs_of 349 rfl rfl, kWs_of 347 (by decide +kernel) rfl, kWs_of 348 (by decide +kernel) rfl, kWs_of 1 (by decide +kernel) rfl⟩
set_option maxRecDepth 100000 in
theorem mw_X7_setRent : Cond.code yX7_setRent cX7_setRent 3 (some .int) ∈ kWs ∧ Cond.instanceMethod yX7_setRent ∈ kWs ∧ Cond.selects RX7 yX7_setRent yX7_setRent ∈ kWs ∧ Cond.initialized RX7 ∈ kWs := ⟨kWs_of 722 rfl rfl, kWs_of 720 (by decide +kernel) rfl, kWs_of 721 (by decide +kernel) rfl, kWs_of 8 (by decide +kernel) rfl⟩
set_option maxRecDepth 100000 in
theorem mw_X6_forbidSkew : Cond.code yX6_forbidSkew cX6_forbidSkew 2 (some .int) ∈ kWs ∧ Cond.instanceMethod yX6_forbidSkew ∈ kWs ∧ Cond.selects RX6 yX6_forbidSkew yX6_forbidSkew ∈ kWs ∧ Cond.initialized RX6 ∈ kWs := ⟨kWs_of 353 rfl rfl, kWs_of 351 (by decide +kernel) rfl, kWs_of 352 (by decide +kernel) rfl, kWs_of 1 (by decide +kernel) rfl⟩
set_option maxRecDepth 100000 in
theorem mw_X4_pairsInSkew : Cond.code yX4_pairsInSkew cX4_pairsInSkew 3 (some .int) ∈ kWs ∧ Cond.instanceMethod yX4_pairsInSkew ∈ kWs ∧ Cond.selects RX4 yX4_pairsInSkew yX4_pairsInSkew ∈ kWs ∧ Cond.initialized RX4 ∈ kWs := ⟨kWs_of 357 rfl rfl, kWs_of 355 (by decide +kernel) rfl, kWs_of 356 (by decide +kernel) rfl, kWs_of 2 (by decide +kernel) rfl⟩
set_option maxRecDepth 100000 in
theorem mw_X7_forbidSkew : Cond.code yX7_forbidSkew cX7_forbidSkew 3 (some .int) ∈ kWs ∧ Cond.instanceMethod yX7_forbidSkew ∈ kWs ∧ Cond.selects RX7 yX7_forbidSkew yX7_forbidSkew ∈ kWs ∧ Cond.initialized RX7 ∈ kWs := ⟨kWs_of 726 rfl rfl, kWs_of 724 (by decide +kernel) rfl, kWs_of 725 (by decide +kernel) rfl, kWs_of 8 (by decide +kernel) rfl⟩
set_option maxRecDepth 100000 in
theorem mw_X7_pairs : Cond.code yX7_pairs cX7_pairs 3 (some .int) ∈ kWs ∧ Cond.instanceMethod yX7_pairs ∈ kWs ∧ Cond.selects RX7 yX7_pairs yX7_pairs ∈ kWs ∧ Cond.initialized RX7 ∈ kWs := ⟨kWs_of 730 rfl rfl, kWs_of 729 (by decide +kernel) rfl, kWs_pr 25 (by decide +kernel), kWs_of 8 (by decide +kernel) rfl⟩
set_option maxRecDepth 100000 in
theorem mw_X7_skews : Cond.code yX7_skews cX7_skews 5 (some .int) ∈ kWs ∧ Cond.instanceMethod yX7_skews ∈ kWs ∧ Cond.selects RX7 yX7_skews yX7_skews ∈ kWs ∧ Cond.initialized RX7 ∈ kWs := ⟨kWs_of 734 rfl rfl, kWs_of 733 (by decide +kernel) rfl, kWs_pr 26 (by decide +kernel), kWs_of 8 (by decide +kernel) rfl⟩
set_option maxRecDepth 100000 in
theorem mw_X7_ofC : Cond.code yX7_ofC cX7_ofC 3 (some .int) ∈ kWs ∧ Cond.instanceMethod yX7_ofC ∈ kWs ∧ Cond.selects RX7 yX7_ofC yX7_ofC ∈ kWs ∧ Cond.initialized RX7 ∈ kWs := ⟨kWs_of 738 rfl rfl, kWs_of 737 (by decide +kernel) rfl, kWs_pr 27 (by decide +kernel), kWs_of 8 (by decide +kernel) rfl⟩
set_option maxRecDepth 100000 in
theorem mw_X7_areSkew : Cond.code yX7_areSkew cX7_areSkew 4 (some .boolean) ∈ kWs ∧ Cond.static yX7_areSkew ∈ kWs ∧ Cond.initialized RX7 ∈ kWs := ⟨kWs_of 741 rfl rfl, kWs_of 740 (by decide +kernel) rfl, kWs_of 8 (by decide +kernel) rfl⟩
set_option maxRecDepth 100000 in
theorem mw_X6_tick : Cond.code yX6_tick cX6_tick 3 (some .int) ∈ kWs ∧ Cond.instanceMethod yX6_tick ∈ kWs ∧ Cond.selects RX6 yX6_tick yX6_tick ∈ kWs ∧ Cond.initialized RX6 ∈ kWs := ⟨kWs_of 361 rfl rfl, kWs_of 359 (by decide +kernel) rfl, kWs_of 360 (by decide +kernel) rfl, kWs_of 1 (by decide +kernel) rfl⟩
set_option maxRecDepth 100000 in
theorem mw_X4_letTicksPass : Cond.code yX4_letTicksPass cX4_letTicksPass 7 none ∈ kWs ∧ Cond.instanceMethod yX4_letTicksPass ∈ kWs ∧ Cond.selects RX4 yX4_letTicksPass yX4_letTicksPass ∈ kWs ∧ Cond.initialized RX4 ∈ kWs := ⟨kWs_of 365 rfl rfl, kWs_of 363 (by decide +kernel) rfl, kWs_of 364 (by decide +kernel) rfl, kWs_of 2 (by decide +kernel) rfl⟩
set_option maxRecDepth 100000 in
theorem mw_X4_tellDues : Cond.code yX4_tellDues cX4_tellDues 2 none ∈ kWs ∧ Cond.instanceMethod yX4_tellDues ∈ kWs ∧ Cond.selects RX4 yX4_tellDues yX4_tellDues ∈ kWs ∧ Cond.initialized RX4 ∈ kWs := ⟨kWs_of 369 rfl rfl, kWs_of 367 (by decide +kernel) rfl, kWs_of 368 (by decide +kernel) rfl, kWs_of 2 (by decide +kernel) rfl⟩
set_option maxRecDepth 100000 in
theorem mw_X4_takeDues : Cond.code yX4_takeDues cX4_takeDues 4 (some .boolean) ∈ kWs ∧ Cond.instanceMethod yX4_takeDues ∈ kWs ∧ Cond.selects RX4 yX4_takeDues yX4_takeDues ∈ kWs ∧ Cond.initialized RX4 ∈ kWs := ⟨kWs_of 374 rfl rfl, kWs_of 372 (by decide +kernel) rfl, kWs_of 373 (by decide +kernel) rfl, kWs_of 2 (by decide +kernel) rfl⟩
set_option maxRecDepth 100000 in
theorem mw_X4_shortenTerms : Cond.code yX4_shortenTerms cX4_shortenTerms 4 (some .boolean) ∈ kWs ∧ Cond.instanceMethod yX4_shortenTerms ∈ kWs ∧ Cond.selects RX4 yX4_shortenTerms yX4_shortenTerms ∈ kWs ∧ Cond.initialized RX4 ∈ kWs := ⟨kWs_of 378 rfl rfl, kWs_of 376 (by decide +kernel) rfl, kWs_of 377 (by decide +kernel) rfl, kWs_of 2 (by decide +kernel) rfl⟩
set_option maxRecDepth 100000 in
theorem mw_X3_isOpenWidow : Cond.code yX3_isOpenWidow cX3_isOpenWidow 1 (some .boolean) ∈ kWs ∧ Cond.instanceMethod yX3_isOpenWidow ∈ kWs ∧ Cond.selects RX3 yX3_isOpenWidow yX3_isOpenWidow ∈ kWs ∧ Cond.initialized RX3 ∈ kWs := ⟨kWs_of 382 rfl rfl, kWs_of 380 (by decide +kernel) rfl, kWs_of 381 (by decide +kernel) rfl, kWs_of 4 (by decide +kernel) rfl⟩
set_option maxRecDepth 100000 in
theorem mw_X7_tick : Cond.code yX7_tick cX7_tick 4 (some .int) ∈ kWs ∧ Cond.instanceMethod yX7_tick ∈ kWs ∧ Cond.selects RX7 yX7_tick yX7_tick ∈ kWs ∧ Cond.initialized RX7 ∈ kWs := ⟨kWs_of 745 rfl rfl, kWs_of 743 (by decide +kernel) rfl, kWs_of 744 (by decide +kernel) rfl, kWs_of 8 (by decide +kernel) rfl⟩
set_option maxRecDepth 100000 in
theorem mw_X7_passes : Cond.code yX7_passes cX7_passes 3 (some .int) ∈ kWs ∧ Cond.instanceMethod yX7_passes ∈ kWs ∧ Cond.selects RX7 yX7_passes yX7_passes ∈ kWs ∧ Cond.initialized RX7 ∈ kWs := ⟨kWs_of 749 rfl rfl, kWs_of 748 (by decide +kernel) rfl, kWs_pr 28 (by decide +kernel), kWs_of 8 (by decide +kernel) rfl⟩
set_option maxRecDepth 100000 in
theorem mw_X6_read : Cond.code yX6_read cX6_read 4 (some .int) ∈ kWs ∧ Cond.instanceMethod yX6_read ∈ kWs ∧ Cond.selects RX6 yX6_read yX6_read ∈ kWs ∧ Cond.initialized RX6 ∈ kWs := ⟨kWs_of 388 rfl rfl, kWs_of 386 (by decide +kernel) rfl, kWs_of 387 (by decide +kernel) rfl, kWs_of 1 (by decide +kernel) rfl⟩
set_option maxRecDepth 100000 in
theorem mw_X6_isCell : Cond.code yX6_isCell cX6_isCell 1 (some .boolean) ∈ kWs ∧ Cond.static yX6_isCell ∈ kWs ∧ Cond.initialized RX6 ∈ kWs := ⟨kWs_of 391 rfl rfl, kWs_of 390 (by decide +kernel) rfl, kWs_of 1 (by decide +kernel) rfl⟩
set_option maxRecDepth 100000 in
theorem mw_X3_hasWrite : Cond.code yX3_hasWrite cX3_hasWrite 2 (some .boolean) ∈ kWs ∧ Cond.instanceMethod yX3_hasWrite ∈ kWs ∧ Cond.selects RX3 yX3_hasWrite yX3_hasWrite ∈ kWs ∧ Cond.initialized RX3 ∈ kWs := ⟨kWs_of 395 rfl rfl, kWs_of 393 (by decide +kernel) rfl, kWs_of 394 (by decide +kernel) rfl, kWs_of 4 (by decide +kernel) rfl⟩
set_option maxRecDepth 100000 in
theorem mw_X0_valueSeenAt : Cond.code yX0_valueSeenAt cX0_valueSeenAt 3 (some .int) ∈ kWs ∧ Cond.instanceMethod yX0_valueSeenAt ∈ kWs ∧ Cond.selects RX0 yX0_valueSeenAt yX0_valueSeenAt ∈ kWs ∧ Cond.initialized RX0 ∈ kWs := ⟨kWs_of 399 rfl rfl, kWs_of 397 (by decide +kernel) rfl, kWs_of 398 (by decide +kernel) rfl, kWs_of 3 (by decide +kernel) rfl⟩
set_option maxRecDepth 100000 in
theorem mw_X7_read : Cond.code yX7_read cX7_read 3 (some .int) ∈ kWs ∧ Cond.instanceMethod yX7_read ∈ kWs ∧ Cond.selects RX7 yX7_read yX7_read ∈ kWs ∧ Cond.initialized RX7 ∈ kWs := ⟨kWs_of 757 rfl rfl, kWs_of 755 (by decide +kernel) rfl, kWs_of 756 (by decide +kernel) rfl, kWs_of 8 (by decide +kernel) rfl⟩
set_option maxRecDepth 100000 in
theorem mw_X7_isCell : Cond.code yX7_isCell cX7_isCell 1 (some .boolean) ∈ kWs ∧ Cond.static yX7_isCell ∈ kWs ∧ Cond.initialized RX7 ∈ kWs := ⟨kWs_of 760 rfl rfl, kWs_of 759 (by decide +kernel) rfl, kWs_of 8 (by decide +kernel) rfl⟩
set_option maxRecDepth 100000 in
theorem mw_X7_has : Cond.code yX7_has cX7_has 2 (some .boolean) ∈ kWs ∧ Cond.static yX7_has ∈ kWs ∧ Cond.initialized RX7 ∈ kWs := ⟨kWs_of 763 rfl rfl, kWs_of 762 (by decide +kernel) rfl, kWs_of 8 (by decide +kernel) rfl⟩
set_option maxRecDepth 100000 in
theorem mw_X6_write : Cond.code yX6_write cX6_write 5 (some .int) ∈ kWs ∧ Cond.instanceMethod yX6_write ∈ kWs ∧ Cond.selects RX6 yX6_write yX6_write ∈ kWs ∧ Cond.initialized RX6 ∈ kWs := ⟨kWs_of 404 rfl rfl, kWs_of 402 (by decide +kernel) rfl, kWs_of 403 (by decide +kernel) rfl, kWs_of 1 (by decide +kernel) rfl⟩
set_option maxRecDepth 100000 in
theorem mw_X3_putWrite : Cond.code yX3_putWrite cX3_putWrite 3 none ∈ kWs ∧ Cond.instanceMethod yX3_putWrite ∈ kWs ∧ Cond.selects RX3 yX3_putWrite yX3_putWrite ∈ kWs ∧ Cond.initialized RX3 ∈ kWs := ⟨kWs_of 408 rfl rfl, kWs_of 406 (by decide +kernel) rfl, kWs_of 407 (by decide +kernel) rfl, kWs_of 4 (by decide +kernel) rfl⟩
set_option maxRecDepth 100000 in
theorem mw_X3_numberOfWrites : Cond.code yX3_numberOfWrites cX3_numberOfWrites 1 (some .int) ∈ kWs ∧ Cond.instanceMethod yX3_numberOfWrites ∈ kWs ∧ Cond.selects RX3 yX3_numberOfWrites yX3_numberOfWrites ∈ kWs ∧ Cond.initialized RX3 ∈ kWs := ⟨kWs_of 412 rfl rfl, kWs_of 410 (by decide +kernel) rfl, kWs_of 411 (by decide +kernel) rfl, kWs_of 4 (by decide +kernel) rfl⟩
set_option maxRecDepth 100000 in
theorem mw_J6_bitCount_0f7a4 : Cond.code yJ6_bitCount_0f7a4 cJ6_bitCount_0f7a4 1 (some .int) ∈ kWs ∧ Cond.static yJ6_bitCount_0f7a4 ∈ kWs ∧ Cond.initialized RJ6 ∈ kWs := ⟨kWs_of 415 rfl rfl, kWs_of 414 (by decide +kernel) rfl, kWs_of 10 (by decide +kernel) rfl⟩
set_option maxRecDepth 100000 in
theorem mw_X7_write : Cond.code yX7_write cX7_write 4 (some .int) ∈ kWs ∧ Cond.instanceMethod yX7_write ∈ kWs ∧ Cond.selects RX7 yX7_write yX7_write ∈ kWs ∧ Cond.initialized RX7 ∈ kWs := ⟨kWs_of 767 rfl rfl, kWs_of 765 (by decide +kernel) rfl, kWs_of 766 (by decide +kernel) rfl, kWs_of 8 (by decide +kernel) rfl⟩
set_option maxRecDepth 100000 in
theorem mw_X7_writes : Cond.code yX7_writes cX7_writes 4 none ∈ kWs ∧ Cond.instanceMethod yX7_writes ∈ kWs ∧ Cond.selects RX7 yX7_writes yX7_writes ∈ kWs ∧ Cond.initialized RX7 ∈ kWs := ⟨kWs_of 771 rfl rfl, kWs_of 770 (by decide +kernel) rfl, kWs_pr 29 (by decide +kernel), kWs_of 8 (by decide +kernel) rfl⟩
set_option maxRecDepth 100000 in
theorem mw_X7_ones : Cond.code yX7_ones cX7_ones 3 (some .int) ∈ kWs ∧ Cond.static yX7_ones ∈ kWs ∧ Cond.initialized RX7 ∈ kWs := ⟨kWs_of 774 rfl rfl, kWs_of 773 (by decide +kernel) rfl, kWs_of 8 (by decide +kernel) rfl⟩
set_option maxRecDepth 100000 in
theorem mw_X6_commit : Cond.code yX6_commit cX6_commit 3 (some .int) ∈ kWs ∧ Cond.instanceMethod yX6_commit ∈ kWs ∧ Cond.selects RX6 yX6_commit yX6_commit ∈ kWs ∧ Cond.initialized RX6 ∈ kWs := ⟨kWs_of 422 rfl rfl, kWs_of 420 (by decide +kernel) rfl, kWs_of 421 (by decide +kernel) rfl, kWs_of 1 (by decide +kernel) rfl⟩
set_option maxRecDepth 100000 in
theorem mw_X4_hasConflict : Cond.code yX4_hasConflict cX4_hasConflict 3 (some .boolean) ∈ kWs ∧ Cond.instanceMethod yX4_hasConflict ∈ kWs ∧ Cond.selects RX4 yX4_hasConflict yX4_hasConflict ∈ kWs ∧ Cond.initialized RX4 ∈ kWs := ⟨kWs_of 426 rfl rfl, kWs_of 424 (by decide +kernel) rfl, kWs_of 425 (by decide +kernel) rfl, kWs_of 2 (by decide +kernel) rfl⟩
set_option maxRecDepth 100000 in
theorem mw_X4_skewsOf : Cond.code yX4_skewsOf cX4_skewsOf 4 (some .int) ∈ kWs ∧ Cond.instanceMethod yX4_skewsOf ∈ kWs ∧ Cond.selects RX4 yX4_skewsOf yX4_skewsOf ∈ kWs ∧ Cond.initialized RX4 ∈ kWs := ⟨kWs_of 431 rfl rfl, kWs_of 429 (by decide +kernel) rfl, kWs_of 430 (by decide +kernel) rfl, kWs_of 2 (by decide +kernel) rfl⟩
set_option maxRecDepth 100000 in
theorem mw_X1_isInSkewWithLater : Cond.code yX1_isInSkewWithLater cX1_isInSkewWithLater 2 (some .boolean) ∈ kWs ∧ Cond.instanceMethod yX1_isInSkewWithLater ∈ kWs ∧ Cond.selects RX1 yX1_isInSkewWithLater yX1_isInSkewWithLater ∈ kWs ∧ Cond.initialized RX1 ∈ kWs := ⟨kWs_of 435 rfl rfl, kWs_of 433 (by decide +kernel) rfl, kWs_of 434 (by decide +kernel) rfl, kWs_of 5 (by decide +kernel) rfl⟩
set_option maxRecDepth 100000 in
theorem mw_X4_oldVersionsWithout : Cond.code yX4_oldVersionsWithout cX4_oldVersionsWithout 6 (some .int) ∈ kWs ∧ Cond.instanceMethod yX4_oldVersionsWithout ∈ kWs ∧ Cond.selects RX4 yX4_oldVersionsWithout yX4_oldVersionsWithout ∈ kWs ∧ Cond.initialized RX4 ∈ kWs := ⟨kWs_of 439 rfl rfl, kWs_of 437 (by decide +kernel) rfl, kWs_of 438 (by decide +kernel) rfl, kWs_of 2 (by decide +kernel) rfl⟩
set_option maxRecDepth 100000 in
theorem mw_X4_land : Cond.code yX4_land cX4_land 3 none ∈ kWs ∧ Cond.instanceMethod yX4_land ∈ kWs ∧ Cond.selects RX4 yX4_land yX4_land ∈ kWs ∧ Cond.initialized RX4 ∈ kWs := ⟨kWs_of 444 rfl rfl, kWs_of 442 (by decide +kernel) rfl, kWs_of 443 (by decide +kernel) rfl, kWs_of 2 (by decide +kernel) rfl⟩
set_option maxRecDepth 100000 in
theorem mw_X4_noteCommit : Cond.code yX4_noteCommit cX4_noteCommit 4 none ∈ kWs ∧ Cond.instanceMethod yX4_noteCommit ∈ kWs ∧ Cond.selects RX4 yX4_noteCommit yX4_noteCommit ∈ kWs ∧ Cond.initialized RX4 ∈ kWs := ⟨kWs_of 448 rfl rfl, kWs_of 447 (by decide +kernel) rfl, kWs_pr 1 (by decide +kernel), kWs_of 2 (by decide +kernel) rfl⟩
set_option maxRecDepth 100000 in
theorem mw_X4_pushWrites : Cond.code yX4_pushWrites cX4_pushWrites 3 none ∈ kWs ∧ Cond.instanceMethod yX4_pushWrites ∈ kWs ∧ Cond.selects RX4 yX4_pushWrites yX4_pushWrites ∈ kWs ∧ Cond.initialized RX4 ∈ kWs := ⟨kWs_of 453 rfl rfl, kWs_of 452 (by decide +kernel) rfl, kWs_pr 2 (by decide +kernel), kWs_of 2 (by decide +kernel) rfl⟩
set_option maxRecDepth 100000 in
theorem mw_X0_push : Cond.code yX0_push cX0_push 3 none ∈ kWs ∧ Cond.instanceMethod yX0_push ∈ kWs ∧ Cond.selects RX0 yX0_push yX0_push ∈ kWs ∧ Cond.initialized RX0 ∈ kWs := ⟨kWs_of 457 rfl rfl, kWs_of 455 (by decide +kernel) rfl, kWs_of 456 (by decide +kernel) rfl, kWs_of 3 (by decide +kernel) rfl⟩
set_option maxRecDepth 100000 in
theorem mw_X7_commit : Cond.code yX7_commit cX7_commit 2 (some .int) ∈ kWs ∧ Cond.instanceMethod yX7_commit ∈ kWs ∧ Cond.selects RX7 yX7_commit yX7_commit ∈ kWs ∧ Cond.initialized RX7 ∈ kWs := ⟨kWs_of 778 rfl rfl, kWs_of 776 (by decide +kernel) rfl, kWs_of 777 (by decide +kernel) rfl, kWs_of 8 (by decide +kernel) rfl⟩
set_option maxRecDepth 100000 in
theorem mw_X7_hasConflict : Cond.code yX7_hasConflict cX7_hasConflict 4 (some .boolean) ∈ kWs ∧ Cond.instanceMethod yX7_hasConflict ∈ kWs ∧ Cond.selects RX7 yX7_hasConflict yX7_hasConflict ∈ kWs ∧ Cond.initialized RX7 ∈ kWs := ⟨kWs_of 782 rfl rfl, kWs_of 781 (by decide +kernel) rfl, kWs_pr 30 (by decide +kernel), kWs_of 8 (by decide +kernel) rfl⟩
set_option maxRecDepth 100000 in
theorem mw_X7_skewsOf : Cond.code yX7_skewsOf cX7_skewsOf 5 (some .int) ∈ kWs ∧ Cond.instanceMethod yX7_skewsOf ∈ kWs ∧ Cond.selects RX7 yX7_skewsOf yX7_skewsOf ∈ kWs ∧ Cond.initialized RX7 ∈ kWs := ⟨kWs_of 786 rfl rfl, kWs_of 785 (by decide +kernel) rfl, kWs_pr 31 (by decide +kernel), kWs_of 8 (by decide +kernel) rfl⟩
set_option maxRecDepth 100000 in
theorem mw_X7_commits : Cond.code yX7_commits cX7_commits 5 none ∈ kWs ∧ Cond.instanceMethod yX7_commits ∈ kWs ∧ Cond.selects RX7 yX7_commits yX7_commits ∈ kWs ∧ Cond.initialized RX7 ∈ kWs := ⟨kWs_of 790 rfl rfl, kWs_of 789 (by decide +kernel) rfl, kWs_pr 32 (by decide +kernel), kWs_of 8 (by decide +kernel) rfl⟩
set_option maxRecDepth 100000 in
theorem mw_X7_oldMany : Cond.code yX7_oldMany cX7_oldMany 1 (some .int) ∈ kWs ∧ Cond.instanceMethod yX7_oldMany ∈ kWs ∧ Cond.selects RX7 yX7_oldMany yX7_oldMany ∈ kWs ∧ Cond.initialized RX7 ∈ kWs := ⟨kWs_of 794 rfl rfl, kWs_of 793 (by decide +kernel) rfl, kWs_pr 33 (by decide +kernel), kWs_of 8 (by decide +kernel) rfl⟩
set_option maxRecDepth 100000 in
theorem mw_X7_brings : Cond.code yX7_brings cX7_brings 3 none ∈ kWs ∧ Cond.instanceMethod yX7_brings ∈ kWs ∧ Cond.selects RX7 yX7_brings yX7_brings ∈ kWs ∧ Cond.initialized RX7 ∈ kWs := ⟨kWs_of 623 rfl rfl, kWs_of 622 (by decide +kernel) rfl, kWs_pr 7 (by decide +kernel), kWs_of 8 (by decide +kernel) rfl⟩
set_option maxRecDepth 100000 in
theorem mw_X7_commitsFor : Cond.code yX7_commitsFor cX7_commitsFor 2 (some .int) ∈ kWs ∧ Cond.instanceMethod yX7_commitsFor ∈ kWs ∧ Cond.selects RX7 yX7_commitsFor yX7_commitsFor ∈ kWs ∧ Cond.initialized RX7 ∈ kWs := ⟨kWs_of 798 rfl rfl, kWs_of 797 (by decide +kernel) rfl, kWs_pr 34 (by decide +kernel), kWs_of 8 (by decide +kernel) rfl⟩
set_option maxRecDepth 100000 in
theorem mw_X6_type : Cond.code yX6_type cX6_type 2 (some .int) ∈ kWs ∧ Cond.instanceMethod yX6_type ∈ kWs ∧ Cond.selects RX6 yX6_type yX6_type ∈ kWs ∧ Cond.initialized RX6 ∈ kWs := ⟨kWs_of 461 rfl rfl, kWs_of 459 (by decide +kernel) rfl, kWs_of 460 (by decide +kernel) rfl, kWs_of 1 (by decide +kernel) rfl⟩
set_option maxRecDepth 100000 in
theorem mw_X5_add : Cond.code yX5_add cX5_add 2 none ∈ kWs ∧ Cond.instanceMethod yX5_add ∈ kWs ∧ Cond.selects RX5 yX5_add yX5_add ∈ kWs ∧ Cond.initialized RX5 ∈ kWs := ⟨kWs_of 465 rfl rfl, kWs_of 463 (by decide +kernel) rfl, kWs_of 464 (by decide +kernel) rfl, kWs_of 7 (by decide +kernel) rfl⟩
set_option maxRecDepth 100000 in
theorem mw_X7_type : Cond.code yX7_type cX7_type 2 (some .int) ∈ kWs ∧ Cond.instanceMethod yX7_type ∈ kWs ∧ Cond.selects RX7 yX7_type yX7_type ∈ kWs ∧ Cond.initialized RX7 ∈ kWs := ⟨kWs_of 802 rfl rfl, kWs_of 800 (by decide +kernel) rfl, kWs_of 801 (by decide +kernel) rfl, kWs_of 8 (by decide +kernel) rfl⟩
set_option maxRecDepth 100000 in
theorem mw_X6_clearText : Cond.code yX6_clearText cX6_clearText 2 (some .int) ∈ kWs ∧ Cond.instanceMethod yX6_clearText ∈ kWs ∧ Cond.selects RX6 yX6_clearText yX6_clearText ∈ kWs ∧ Cond.initialized RX6 ∈ kWs := ⟨kWs_of 469 rfl rfl, kWs_of 467 (by decide +kernel) rfl, kWs_of 468 (by decide +kernel) rfl, kWs_of 1 (by decide +kernel) rfl⟩
set_option maxRecDepth 100000 in
theorem mw_X7_clearText : Cond.code yX7_clearText cX7_clearText 2 (some .int) ∈ kWs ∧ Cond.instanceMethod yX7_clearText ∈ kWs ∧ Cond.selects RX7 yX7_clearText yX7_clearText ∈ kWs ∧ Cond.initialized RX7 ∈ kWs := ⟨kWs_of 806 rfl rfl, kWs_of 804 (by decide +kernel) rfl, kWs_of 805 (by decide +kernel) rfl, kWs_of 8 (by decide +kernel) rfl⟩
set_option maxRecDepth 100000 in
theorem mw_X6_readWrites : Cond.code yX6_readWrites cX6_readWrites 5 (some .int) ∈ kWs ∧ Cond.instanceMethod yX6_readWrites ∈ kWs ∧ Cond.selects RX6 yX6_readWrites yX6_readWrites ∈ kWs ∧ Cond.initialized RX6 ∈ kWs := ⟨kWs_of 473 rfl rfl, kWs_of 471 (by decide +kernel) rfl, kWs_of 472 (by decide +kernel) rfl, kWs_of 1 (by decide +kernel) rfl⟩
set_option maxRecDepth 100000 in
theorem mw_X5_parse : Cond.code yX5_parse cX5_parse 6 (some .int) ∈ kWs ∧ Cond.instanceMethod yX5_parse ∈ kWs ∧ Cond.selects RX5 yX5_parse yX5_parse ∈ kWs ∧ Cond.initialized RX5 ∈ kWs := ⟨kWs_of 477 rfl rfl, kWs_of 475 (by decide +kernel) rfl, kWs_of 476 (by decide +kernel) rfl, kWs_of 7 (by decide +kernel) rfl⟩
set_option maxRecDepth 100000 in
theorem mw_X5_endOfNumber : Cond.code yX5_endOfNumber cX5_endOfNumber 5 (some .int) ∈ kWs ∧ Cond.instanceMethod yX5_endOfNumber ∈ kWs ∧ Cond.selects RX5 yX5_endOfNumber yX5_endOfNumber ∈ kWs ∧ Cond.initialized RX5 ∈ kWs := ⟨kWs_of 481 rfl rfl, kWs_of 480 (by decide +kernel) rfl, kWs_pr 3 (by decide +kernel), kWs_of 7 (by decide +kernel) rfl⟩
set_option maxRecDepth 100000 in
theorem mw_X5_isSign : Cond.code yX5_isSign cX5_isSign 3 (some .boolean) ∈ kWs ∧ Cond.instanceMethod yX5_isSign ∈ kWs ∧ Cond.selects RX5 yX5_isSign yX5_isSign ∈ kWs ∧ Cond.initialized RX5 ∈ kWs := ⟨kWs_of 485 rfl rfl, kWs_of 484 (by decide +kernel) rfl, kWs_pr 4 (by decide +kernel), kWs_of 7 (by decide +kernel) rfl⟩
set_option maxRecDepth 100000 in
theorem mw_X5_isDigit : Cond.code yX5_isDigit cX5_isDigit 2 (some .boolean) ∈ kWs ∧ Cond.instanceMethod yX5_isDigit ∈ kWs ∧ Cond.selects RX5 yX5_isDigit yX5_isDigit ∈ kWs ∧ Cond.initialized RX5 ∈ kWs := ⟨kWs_of 489 rfl rfl, kWs_of 488 (by decide +kernel) rfl, kWs_pr 5 (by decide +kernel), kWs_of 7 (by decide +kernel) rfl⟩
set_option maxRecDepth 100000 in
theorem mw_X5_number : Cond.code yX5_number cX5_number 5 (some .int) ∈ kWs ∧ Cond.instanceMethod yX5_number ∈ kWs ∧ Cond.selects RX5 yX5_number yX5_number ∈ kWs ∧ Cond.initialized RX5 ∈ kWs := ⟨kWs_of 493 rfl rfl, kWs_of 492 (by decide +kernel) rfl, kWs_pr 6 (by decide +kernel), kWs_of 7 (by decide +kernel) rfl⟩
set_option maxRecDepth 100000 in
theorem mw_X5_greatestCell : Cond.code yX5_greatestCell cX5_greatestCell 3 (some .int) ∈ kWs ∧ Cond.instanceMethod yX5_greatestCell ∈ kWs ∧ Cond.selects RX5 yX5_greatestCell yX5_greatestCell ∈ kWs ∧ Cond.initialized RX5 ∈ kWs := ⟨kWs_of 497 rfl rfl, kWs_of 495 (by decide +kernel) rfl, kWs_of 496 (by decide +kernel) rfl, kWs_of 7 (by decide +kernel) rfl⟩
set_option maxRecDepth 100000 in
theorem mw_X7_readWrites : Cond.code yX7_readWrites cX7_readWrites 4 (some .int) ∈ kWs ∧ Cond.instanceMethod yX7_readWrites ∈ kWs ∧ Cond.selects RX7 yX7_readWrites yX7_readWrites ∈ kWs ∧ Cond.initialized RX7 ∈ kWs := ⟨kWs_of 810 rfl rfl, kWs_of 808 (by decide +kernel) rfl, kWs_of 809 (by decide +kernel) rfl, kWs_of 8 (by decide +kernel) rfl⟩
set_option maxRecDepth 100000 in
theorem mw_X7_faultOf : Cond.code yX7_faultOf cX7_faultOf 1 (some .int) ∈ kWs ∧ Cond.instanceMethod yX7_faultOf ∈ kWs ∧ Cond.selects RX7 yX7_faultOf yX7_faultOf ∈ kWs ∧ Cond.initialized RX7 ∈ kWs := ⟨kWs_of 814 rfl rfl, kWs_of 813 (by decide +kernel) rfl, kWs_pr 35 (by decide +kernel), kWs_of 8 (by decide +kernel) rfl⟩
set_option maxRecDepth 100000 in
theorem mw_X7_passesWrite : Cond.code yX7_passesWrite cX7_passesWrite 1 (some .boolean) ∈ kWs ∧ Cond.instanceMethod yX7_passesWrite ∈ kWs ∧ Cond.selects RX7 yX7_passesWrite yX7_passesWrite ∈ kWs ∧ Cond.initialized RX7 ∈ kWs := ⟨kWs_of 818 rfl rfl, kWs_of 817 (by decide +kernel) rfl, kWs_pr 36 (by decide +kernel), kWs_of 8 (by decide +kernel) rfl⟩
set_option maxRecDepth 100000 in
theorem mw_X7_passesNumber : Cond.code yX7_passesNumber cX7_passesNumber 4 (some .boolean) ∈ kWs ∧ Cond.instanceMethod yX7_passesNumber ∈ kWs ∧ Cond.selects RX7 yX7_passesNumber yX7_passesNumber ∈ kWs ∧ Cond.initialized RX7 ∈ kWs := ⟨kWs_of 822 rfl rfl, kWs_of 821 (by decide +kernel) rfl, kWs_pr 37 (by decide +kernel), kWs_of 8 (by decide +kernel) rfl⟩
set_option maxRecDepth 100000 in
theorem mw_X7_isHere : Cond.code yX7_isHere cX7_isHere 3 (some .boolean) ∈ kWs ∧ Cond.instanceMethod yX7_isHere ∈ kWs ∧ Cond.selects RX7 yX7_isHere yX7_isHere ∈ kWs ∧ Cond.initialized RX7 ∈ kWs := ⟨kWs_of 826 rfl rfl, kWs_of 825 (by decide +kernel) rfl, kWs_pr 38 (by decide +kernel), kWs_of 8 (by decide +kernel) rfl⟩
set_option maxRecDepth 100000 in
theorem mw_X7_passesSign : Cond.code yX7_passesSign cX7_passesSign 3 (some .boolean) ∈ kWs ∧ Cond.instanceMethod yX7_passesSign ∈ kWs ∧ Cond.selects RX7 yX7_passesSign yX7_passesSign ∈ kWs ∧ Cond.initialized RX7 ∈ kWs := ⟨kWs_of 830 rfl rfl, kWs_of 829 (by decide +kernel) rfl, kWs_pr 39 (by decide +kernel), kWs_of 8 (by decide +kernel) rfl⟩
set_option maxRecDepth 100000 in
theorem mw_X6_undo : Cond.code yX6_undo cX6_undo 1 (some .int) ∈ kWs ∧ Cond.instanceMethod yX6_undo ∈ kWs ∧ Cond.selects RX6 yX6_undo yX6_undo ∈ kWs ∧ Cond.initialized RX6 ∈ kWs := ⟨kWs_of 504 rfl rfl, kWs_of 502 (by decide +kernel) rfl, kWs_of 503 (by decide +kernel) rfl, kWs_of 1 (by decide +kernel) rfl⟩
set_option maxRecDepth 100000 in
theorem mw_X2_bringBack : Cond.code yX2_bringBack cX2_bringBack 2 none ∈ kWs ∧ Cond.instanceMethod yX2_bringBack ∈ kWs ∧ Cond.selects RX2 yX2_bringBack yX2_bringBack ∈ kWs ∧ Cond.initialized RX2 ∈ kWs := ⟨kWs_of 508 rfl rfl, kWs_of 506 (by decide +kernel) rfl, kWs_of 507 (by decide +kernel) rfl, kWs_of 6 (by decide +kernel) rfl⟩
set_option maxRecDepth 100000 in
theorem mw_X7_undo : Cond.code yX7_undo cX7_undo 1 (some .int) ∈ kWs ∧ Cond.instanceMethod yX7_undo ∈ kWs ∧ Cond.selects RX7 yX7_undo yX7_undo ∈ kWs ∧ Cond.initialized RX7 ∈ kWs := ⟨kWs_of 619 rfl rfl, kWs_of 617 (by decide +kernel) rfl, kWs_of 618 (by decide +kernel) rfl, kWs_of 8 (by decide +kernel) rfl⟩
set_option maxRecDepth 100000 in
theorem mw_X6_keep : Cond.code yX6_keep cX6_keep 1 (some .int) ∈ kWs ∧ Cond.instanceMethod yX6_keep ∈ kWs ∧ Cond.selects RX6 yX6_keep yX6_keep ∈ kWs ∧ Cond.initialized RX6 ∈ kWs := ⟨kWs_of 512 rfl rfl, kWs_of 510 (by decide +kernel) rfl, kWs_of 511 (by decide +kernel) rfl, kWs_of 1 (by decide +kernel) rfl⟩
set_option maxRecDepth 100000 in
theorem mw_X7_keep : Cond.code yX7_keep cX7_keep 1 (some .int) ∈ kWs ∧ Cond.instanceMethod yX7_keep ∈ kWs ∧ Cond.selects RX7 yX7_keep yX7_keep ∈ kWs ∧ Cond.initialized RX7 ∈ kWs := ⟨kWs_of 627 rfl rfl, kWs_of 625 (by decide +kernel) rfl, kWs_of 626 (by decide +kernel) rfl, kWs_of 8 (by decide +kernel) rfl⟩
set_option maxRecDepth 100000 in
theorem mw_X6_restore : Cond.code yX6_restore cX6_restore 1 (some .int) ∈ kWs ∧ Cond.instanceMethod yX6_restore ∈ kWs ∧ Cond.selects RX6 yX6_restore yX6_restore ∈ kWs ∧ Cond.initialized RX6 ∈ kWs := ⟨kWs_of 517 rfl rfl, kWs_of 515 (by decide +kernel) rfl, kWs_of 516 (by decide +kernel) rfl, kWs_of 1 (by decide +kernel) rfl⟩
set_option maxRecDepth 100000 in
theorem mw_X7_restore : Cond.code yX7_restore cX7_restore 1 (some .int) ∈ kWs ∧ Cond.instanceMethod yX7_restore ∈ kWs ∧ Cond.selects RX7 yX7_restore yX7_restore ∈ kWs ∧ Cond.initialized RX7 ∈ kWs := ⟨kWs_of 635 rfl rfl, kWs_of 633 (by decide +kernel) rfl, kWs_of 634 (by decide +kernel) rfl, kWs_of 8 (by decide +kernel) rfl⟩
set_option maxRecDepth 100000 in
theorem mw_X6_cell : Cond.code yX6_cell cX6_cell 4 (some .int) ∈ kWs ∧ Cond.instanceMethod yX6_cell ∈ kWs ∧ Cond.selects RX6 yX6_cell yX6_cell ∈ kWs ∧ Cond.initialized RX6 ∈ kWs := ⟨kWs_of 521 rfl rfl, kWs_of 519 (by decide +kernel) rfl, kWs_of 520 (by decide +kernel) rfl, kWs_of 1 (by decide +kernel) rfl⟩
set_option maxRecDepth 100000 in
theorem mw_X4_seersOf : Cond.code yX4_seersOf cX4_seersOf 6 (some .int) ∈ kWs ∧ Cond.instanceMethod yX4_seersOf ∈ kWs ∧ Cond.selects RX4 yX4_seersOf yX4_seersOf ∈ kWs ∧ Cond.initialized RX4 ∈ kWs := ⟨kWs_of 525 rfl rfl, kWs_of 523 (by decide +kernel) rfl, kWs_of 524 (by decide +kernel) rfl, kWs_of 2 (by decide +kernel) rfl⟩
set_option maxRecDepth 100000 in
theorem mw_X4_writersOf : Cond.code yX4_writersOf cX4_writersOf 4 (some .int) ∈ kWs ∧ Cond.instanceMethod yX4_writersOf ∈ kWs ∧ Cond.selects RX4 yX4_writersOf yX4_writersOf ∈ kWs ∧ Cond.initialized RX4 ∈ kWs := ⟨kWs_of 529 rfl rfl, kWs_of 527 (by decide +kernel) rfl, kWs_of 528 (by decide +kernel) rfl, kWs_of 2 (by decide +kernel) rfl⟩
set_option maxRecDepth 100000 in
theorem mw_X7_cell : Cond.code yX7_cell cX7_cell 3 (some .int) ∈ kWs ∧ Cond.instanceMethod yX7_cell ∈ kWs ∧ Cond.selects RX7 yX7_cell yX7_cell ∈ kWs ∧ Cond.initialized RX7 ∈ kWs := ⟨kWs_of 834 rfl rfl, kWs_of 832 (by decide +kernel) rfl, kWs_of 833 (by decide +kernel) rfl, kWs_of 8 (by decide +kernel) rfl⟩
set_option maxRecDepth 100000 in
theorem mw_X7_versionsOf : Cond.code yX7_versionsOf cX7_versionsOf 4 (some .int) ∈ kWs ∧ Cond.instanceMethod yX7_versionsOf ∈ kWs ∧ Cond.selects RX7 yX7_versionsOf yX7_versionsOf ∈ kWs ∧ Cond.initialized RX7 ∈ kWs := ⟨kWs_of 838 rfl rfl, kWs_of 837 (by decide +kernel) rfl, kWs_pr 40 (by decide +kernel), kWs_of 8 (by decide +kernel) rfl⟩
set_option maxRecDepth 100000 in
theorem mw_X7_writers : Cond.code yX7_writers cX7_writers 4 (some .int) ∈ kWs ∧ Cond.instanceMethod yX7_writers ∈ kWs ∧ Cond.selects RX7 yX7_writers yX7_writers ∈ kWs ∧ Cond.initialized RX7 ∈ kWs := ⟨kWs_of 842 rfl rfl, kWs_of 841 (by decide +kernel) rfl, kWs_pr 41 (by decide +kernel), kWs_of 8 (by decide +kernel) rfl⟩
set_option maxRecDepth 100000 in
theorem mw_X6_version : Cond.code yX6_version cX6_version 5 (some .int) ∈ kWs ∧ Cond.instanceMethod yX6_version ∈ kWs ∧ Cond.selects RX6 yX6_version yX6_version ∈ kWs ∧ Cond.initialized RX6 ∈ kWs := ⟨kWs_of 533 rfl rfl, kWs_of 531 (by decide +kernel) rfl, kWs_of 532 (by decide +kernel) rfl, kWs_of 1 (by decide +kernel) rfl⟩
set_option maxRecDepth 100000 in
theorem mw_X7_version : Cond.code yX7_version cX7_version 6 (some .int) ∈ kWs ∧ Cond.instanceMethod yX7_version ∈ kWs ∧ Cond.selects RX7 yX7_version yX7_version ∈ kWs ∧ Cond.initialized RX7 ∈ kWs := ⟨kWs_of 846 rfl rfl, kWs_of 844 (by decide +kernel) rfl, kWs_of 845 (by decide +kernel) rfl, kWs_of 8 (by decide +kernel) rfl⟩
set_option maxRecDepth 100000 in
theorem mw_X6_reader : Cond.code yX6_reader cX6_reader 4 (some .int) ∈ kWs ∧ Cond.instanceMethod yX6_reader ∈ kWs ∧ Cond.selects RX6 yX6_reader yX6_reader ∈ kWs ∧ Cond.initialized RX6 ∈ kWs := ⟨kWs_of 539 rfl rfl, kWs_of 537 (by decide +kernel) rfl, kWs_of 538 (by decide +kernel) rfl, kWs_of 1 (by decide +kernel) rfl⟩
set_option maxRecDepth 100000 in
theorem mw_X4_oldVersionsSeenBy : Cond.code yX4_oldVersionsSeenBy cX4_oldVersionsSeenBy 4 (some .int) ∈ kWs ∧ Cond.instanceMethod yX4_oldVersionsSeenBy ∈ kWs ∧ Cond.selects RX4 yX4_oldVersionsSeenBy yX4_oldVersionsSeenBy ∈ kWs ∧ Cond.initialized RX4 ∈ kWs := ⟨kWs_of 543 rfl rfl, kWs_of 541 (by decide +kernel) rfl, kWs_of 542 (by decide +kernel) rfl, kWs_of 2 (by decide +kernel) rfl⟩
set_option maxRecDepth 100000 in
theorem mw_X4_sumSeenBy : Cond.code yX4_sumSeenBy cX4_sumSeenBy 4 (some .int) ∈ kWs ∧ Cond.instanceMethod yX4_sumSeenBy ∈ kWs ∧ Cond.selects RX4 yX4_sumSeenBy yX4_sumSeenBy ∈ kWs ∧ Cond.initialized RX4 ∈ kWs := ⟨kWs_of 547 rfl rfl, kWs_of 545 (by decide +kernel) rfl, kWs_of 546 (by decide +kernel) rfl, kWs_of 2 (by decide +kernel) rfl⟩
set_option maxRecDepth 100000 in
theorem mw_X7_reader : Cond.code yX7_reader cX7_reader 3 (some .int) ∈ kWs ∧ Cond.instanceMethod yX7_reader ∈ kWs ∧ Cond.selects RX7 yX7_reader yX7_reader ∈ kWs ∧ Cond.initialized RX7 ∈ kWs := ⟨kWs_of 850 rfl rfl, kWs_of 848 (by decide +kernel) rfl, kWs_of 849 (by decide +kernel) rfl, kWs_of 8 (by decide +kernel) rfl⟩
set_option maxRecDepth 100000 in
theorem mw_X7_seen : Cond.code yX7_seen cX7_seen 6 (some .int) ∈ kWs ∧ Cond.instanceMethod yX7_seen ∈ kWs ∧ Cond.selects RX7 yX7_seen yX7_seen ∈ kWs ∧ Cond.initialized RX7 ∈ kWs := ⟨kWs_of 854 rfl rfl, kWs_of 853 (by decide +kernel) rfl, kWs_pr 42 (by decide +kernel), kWs_of 8 (by decide +kernel) rfl⟩
set_option maxRecDepth 100000 in
theorem mw_X6_lasts : Cond.code yX6_lasts cX6_lasts 2 (some .int) ∈ kWs ∧ Cond.instanceMethod yX6_lasts ∈ kWs ∧ Cond.selects RX6 yX6_lasts yX6_lasts ∈ kWs ∧ Cond.initialized RX6 ∈ kWs := ⟨kWs_of 552 rfl rfl, kWs_of 550 (by decide +kernel) rfl, kWs_of 551 (by decide +kernel) rfl, kWs_of 1 (by decide +kernel) rfl⟩
set_option maxRecDepth 100000 in
theorem mw_X7_lasts : Cond.code yX7_lasts cX7_lasts 3 (some .int) ∈ kWs ∧ Cond.instanceMethod yX7_lasts ∈ kWs ∧ Cond.selects RX7 yX7_lasts yX7_lasts ∈ kWs ∧ Cond.initialized RX7 ∈ kWs := ⟨kWs_of 753 rfl rfl, kWs_of 751 (by decide +kernel) rfl, kWs_of 752 (by decide +kernel) rfl, kWs_of 8 (by decide +kernel) rfl⟩
set_option maxRecDepth 100000 in
theorem mw_X6_committed : Cond.code yX6_committed cX6_committed 4 (some .int) ∈ kWs ∧ Cond.instanceMethod yX6_committed ∈ kWs ∧ Cond.selects RX6 yX6_committed yX6_committed ∈ kWs ∧ Cond.initialized RX6 ∈ kWs := ⟨kWs_of 556 rfl rfl, kWs_of 554 (by decide +kernel) rfl, kWs_of 555 (by decide +kernel) rfl, kWs_of 1 (by decide +kernel) rfl⟩
set_option maxRecDepth 100000 in
theorem mw_X7_committed : Cond.code yX7_committed cX7_committed 3 (some .int) ∈ kWs ∧ Cond.instanceMethod yX7_committed ∈ kWs ∧ Cond.selects RX7 yX7_committed yX7_committed ∈ kWs ∧ Cond.initialized RX7 ∈ kWs := ⟨kWs_of 858 rfl rfl, kWs_of 856 (by decide +kernel) rfl, kWs_of 857 (by decide +kernel) rfl, kWs_of 8 (by decide +kernel) rfl⟩
set_option maxRecDepth 100000 in
theorem mw_X6_count : Cond.code yX6_count cX6_count 2 (some .int) ∈ kWs ∧ Cond.instanceMethod yX6_count ∈ kWs ∧ Cond.selects RX6 yX6_count yX6_count ∈ kWs ∧ Cond.initialized RX6 ∈ kWs := ⟨kWs_of 560 rfl rfl, kWs_of 558 (by decide +kernel) rfl, kWs_of 559 (by decide +kernel) rfl, kWs_of 1 (by decide +kernel) rfl⟩
set_option maxRecDepth 100000 in
theorem mw_X4_oldVersions : Cond.code yX4_oldVersions cX4_oldVersions 3 (some .int) ∈ kWs ∧ Cond.instanceMethod yX4_oldVersions ∈ kWs ∧ Cond.selects RX4 yX4_oldVersions yX4_oldVersions ∈ kWs ∧ Cond.initialized RX4 ∈ kWs := ⟨kWs_of 564 rfl rfl, kWs_of 562 (by decide +kernel) rfl, kWs_of 563 (by decide +kernel) rfl, kWs_of 2 (by decide +kernel) rfl⟩
set_option maxRecDepth 100000 in
theorem mw_X4_coinsPaid : Cond.code yX4_coinsPaid cX4_coinsPaid 3 (some .int) ∈ kWs ∧ Cond.instanceMethod yX4_coinsPaid ∈ kWs ∧ Cond.selects RX4 yX4_coinsPaid yX4_coinsPaid ∈ kWs ∧ Cond.initialized RX4 ∈ kWs := ⟨kWs_of 568 rfl rfl, kWs_of 566 (by decide +kernel) rfl, kWs_of 567 (by decide +kernel) rfl, kWs_of 2 (by decide +kernel) rfl⟩
set_option maxRecDepth 100000 in
theorem mw_X4_openWidows : Cond.code yX4_openWidows cX4_openWidows 3 (some .int) ∈ kWs ∧ Cond.instanceMethod yX4_openWidows ∈ kWs ∧ Cond.selects RX4 yX4_openWidows yX4_openWidows ∈ kWs ∧ Cond.initialized RX4 ∈ kWs := ⟨kWs_of 572 rfl rfl, kWs_of 570 (by decide +kernel) rfl, kWs_of 571 (by decide +kernel) rfl, kWs_of 2 (by decide +kernel) rfl⟩
set_option maxRecDepth 100000 in
theorem mw_X7_count : Cond.code yX7_count cX7_count 2 (some .int) ∈ kWs ∧ Cond.instanceMethod yX7_count ∈ kWs ∧ Cond.selects RX7 yX7_count yX7_count ∈ kWs ∧ Cond.initialized RX7 ∈ kWs := ⟨kWs_of 862 rfl rfl, kWs_of 860 (by decide +kernel) rfl, kWs_of 861 (by decide +kernel) rfl, kWs_of 8 (by decide +kernel) rfl⟩
set_option maxRecDepth 100000 in
theorem mw_X7_widows : Cond.code yX7_widows cX7_widows 3 (some .int) ∈ kWs ∧ Cond.instanceMethod yX7_widows ∈ kWs ∧ Cond.selects RX7 yX7_widows yX7_widows ∈ kWs ∧ Cond.initialized RX7 ∈ kWs := ⟨kWs_of 866 rfl rfl, kWs_of 865 (by decide +kernel) rfl, kWs_pr 43 (by decide +kernel), kWs_of 8 (by decide +kernel) rfl⟩
