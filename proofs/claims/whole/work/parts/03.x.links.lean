theorem g_X6_12 : kL RX6 12 RX6 TX6 6 tyX6 0 := ⟨by decide, inK6, tyX6_ok, nmX6, rfl, Or.inl (kWs_of 230 (by decide +kernel) rfl)⟩
theorem g_X6_16 : kL RX6 16 RX6 TX6 6 tyX6 1 := ⟨by decide, inK6, tyX6_ok, nmX6, rfl, Or.inl (kWs_of 231 (by decide +kernel) rfl)⟩
theorem g_X6_19 : kL RX6 19 RX6 TX6 6 tyX6 2 := ⟨by decide, inK6, tyX6_ok, nmX6, rfl, Or.inl (kWs_of 232 (by decide +kernel) rfl)⟩
theorem g_X6_25 : kL RX6 25 RX6 TX6 6 tyX6 3 := ⟨by decide, inK6, tyX6_ok, nmX6, rfl, Or.inl (kWs_of 233 (by decide +kernel) rfl)⟩
theorem g_X6_32 : kL RX6 32 RX6 TX6 6 tyX6 4 := ⟨by decide, inK6, tyX6_ok, nmX6, rfl, Or.inl (kWs_of 234 (by decide +kernel) rfl)⟩
theorem g_X6_36 : kL RX6 36 RX4 TX4 11 tyX4 6 := ⟨by decide, inK4, tyX4_ok, nmX4, rfl, Or.inr ⟨"RentedMoments", List.mem_of_getElem? (i := 46) (by decide +kernel)⟩⟩
theorem v_X6_40 : kV RX6 40 RX4 yX4_readersIn cX4_readersIn 4 (some .int) 1 := ⟨kWs_of 253 (by decide +kernel) rfl, mw_X4_readersIn.2.1, mw_X4_readersIn.2.2.1, mw_X4_readersIn.2.2.2, mw_X4_readersIn.1, rfl, by decide, by decide, by decide +kernel⟩
theorem v_X6_44 : kV RX6 44 RX2 yX2_record cX2_record 2 none 1 := ⟨kWs_of 257 (by decide +kernel) rfl, mw_X2_record.2.1, mw_X2_record.2.2.1, mw_X2_record.2.2.2, mw_X2_record.1, rfl, by decide, by decide, by decide +kernel⟩
theorem v_X6_48 : kV RX6 48 RX4 yX4_addReader cX4_addReader 3 (some .int) 1 := ⟨kWs_of 285 (by decide +kernel) rfl, mw_X4_addReader.2.1, mw_X4_addReader.2.2.1, mw_X4_addReader.2.2.2, mw_X4_addReader.1, rfl, by decide, by decide, by decide +kernel⟩
theorem v_X6_51 : kV RX6 51 RX4 yX4_hasReader cX4_hasReader 2 (some .boolean) 1 := ⟨kWs_of 297 (by decide +kernel) rfl, mw_X4_hasReader.2.1, mw_X4_hasReader.2.2.1, mw_X4_hasReader.2.2.2, mw_X4_hasReader.1, rfl, by decide, by decide, by decide +kernel⟩
theorem g_X6_55 : kL RX6 55 RX4 TX4 11 tyX4 1 := ⟨by decide, inK4, tyX4_ok, nmX4, rfl, Or.inr ⟨"RentedMoments", List.mem_of_getElem? (i := 41) (by decide +kernel)⟩⟩
theorem v_X6_59 : kV RX6 59 RX3 yX3_isOpen cX3_isOpen 1 (some .boolean) 0 := ⟨kWs_of 301 (by decide +kernel) rfl, mw_X3_isOpen.2.1, mw_X3_isOpen.2.2.1, mw_X3_isOpen.2.2.2, mw_X3_isOpen.1, rfl, by decide, by decide, by decide +kernel⟩
theorem g_X6_65 : kL RX6 65 RX3 TX3 9 tyX3 3 := ⟨by decide, inK3, tyX3_ok, nmX3, rfl, Or.inr ⟨"RentedMoments", List.mem_of_getElem? (i := 14) (by decide +kernel)⟩⟩
theorem g_X6_68 : kL RX6 68 RX3 TX3 9 tyX3 8 := ⟨by decide, inK3, tyX3_ok, nmX3, rfl, Or.inr ⟨"RentedMoments", List.mem_of_getElem? (i := 26) (by decide +kernel)⟩⟩
theorem v_X6_72 : kV RX6 72 RX4 yX4_dueOf cX4_dueOf 4 (some .int) 1 := ⟨kWs_of 309 (by decide +kernel) rfl, mw_X4_dueOf.2.1, mw_X4_dueOf.2.2.1, mw_X4_dueOf.2.2.2, mw_X4_dueOf.1, rfl, by decide, by decide, by decide +kernel⟩
theorem g_X6_76 : kL RX6 76 RX3 TX3 9 tyX3 6 := ⟨by decide, inK3, tyX3_ok, nmX3, rfl, Or.inr ⟨"RentedMoments", List.mem_of_getElem? (i := 22) (by decide +kernel)⟩⟩
theorem g_X6_79 : kL RX6 79 RX3 TX3 9 tyX3 1 := ⟨by decide, inK3, tyX3_ok, nmX3, rfl, Or.inr ⟨"RentedMoments", List.mem_of_getElem? (i := 10) (by decide +kernel)⟩⟩
theorem v_X6_82 : kV RX6 82 RX4 yX4_removeUnseen cX4_removeUnseen 3 (some .int) 0 := ⟨kWs_of 333 (by decide +kernel) rfl, mw_X4_removeUnseen.2.1, mw_X4_removeUnseen.2.2.1, mw_X4_removeUnseen.2.2.2, mw_X4_removeUnseen.1, rfl, by decide, by decide, by decide +kernel⟩
theorem g_X6_86 : kL RX6 86 RX4 TX4 11 tyX4 5 := ⟨by decide, inK4, tyX4_ok, nmX4, rfl, Or.inr ⟨"RentedMoments", List.mem_of_getElem? (i := 45) (by decide +kernel)⟩⟩
theorem g_X6_89 : kL RX6 89 RX4 TX4 11 tyX4 9 := ⟨by decide, inK4, tyX4_ok, nmX4, rfl, Or.inr ⟨"RentedMoments", List.mem_of_getElem? (i := 49) (by decide +kernel)⟩⟩
theorem v_X6_92 : kV RX6 92 RX4 yX4_pairsInSkew cX4_pairsInSkew 3 (some .int) 0 := ⟨kWs_of 354 (by decide +kernel) rfl, mw_X4_pairsInSkew.2.1, mw_X4_pairsInSkew.2.2.1, mw_X4_pairsInSkew.2.2.2, mw_X4_pairsInSkew.1, rfl, by decide, by decide, by decide +kernel⟩
theorem v_X6_95 : kV RX6 95 RX4 yX4_letTicksPass cX4_letTicksPass 7 none 2 := ⟨kWs_of 362 (by decide +kernel) rfl, mw_X4_letTicksPass.2.1, mw_X4_letTicksPass.2.2.1, mw_X4_letTicksPass.2.2.2, mw_X4_letTicksPass.1, rfl, by decide, by decide, by decide +kernel⟩
theorem v_X6_99 : kVs RX6 99 yX6_isCell cX6_isCell 1 (some .boolean) 1 := ⟨kWs_of 389 (by decide +kernel) rfl, mw_X6_isCell.2.1, mw_X6_isCell.2.2, mw_X6_isCell.1, rfl, by decide, by decide, by decide +kernel⟩
theorem v_X6_102 : kV RX6 102 RX3 yX3_hasWrite cX3_hasWrite 2 (some .boolean) 1 := ⟨kWs_of 392 (by decide +kernel) rfl, mw_X3_hasWrite.2.1, mw_X3_hasWrite.2.2.1, mw_X3_hasWrite.2.2.2, mw_X3_hasWrite.1, rfl, by decide, by decide, by decide +kernel⟩
theorem g_X6_105 : kL RX6 105 RX3 TX3 9 tyX3 0 := ⟨by decide, inK3, tyX3_ok, nmX3, rfl, Or.inr ⟨"RentedMoments", List.mem_of_getElem? (i := 7) (by decide +kernel)⟩⟩
theorem g_X6_109 : kL RX6 109 RX3 TX3 9 tyX3 4 := ⟨by decide, inK3, tyX3_ok, nmX3, rfl, Or.inr ⟨"RentedMoments", List.mem_of_getElem? (i := 17) (by decide +kernel)⟩⟩
theorem g_X6_112 : kL RX6 112 RX4 TX4 11 tyX4 0 := ⟨by decide, inK4, tyX4_ok, nmX4, rfl, Or.inr ⟨"RentedMoments", List.mem_of_getElem? (i := 40) (by decide +kernel)⟩⟩
theorem g_X6_116 : kL RX6 116 RX3 TX3 9 tyX3 2 := ⟨by decide, inK3, tyX3_ok, nmX3, rfl, Or.inr ⟨"RentedMoments", List.mem_of_getElem? (i := 13) (by decide +kernel)⟩⟩
theorem v_X6_119 : kV RX6 119 RX0 yX0_valueSeenAt cX0_valueSeenAt 3 (some .int) 1 := ⟨kWs_of 396 (by decide +kernel) rfl, mw_X0_valueSeenAt.2.1, mw_X0_valueSeenAt.2.2.1, mw_X0_valueSeenAt.2.2.2, mw_X0_valueSeenAt.1, rfl, by decide, by decide, by decide +kernel⟩
theorem v_X6_124 : kV RX6 124 RX3 yX3_putWrite cX3_putWrite 3 none 2 := ⟨kWs_of 405 (by decide +kernel) rfl, mw_X3_putWrite.2.1, mw_X3_putWrite.2.2.1, mw_X3_putWrite.2.2.2, mw_X3_putWrite.1, rfl, by decide, by decide, by decide +kernel⟩
theorem v_X6_127 : kV RX6 127 RX3 yX3_numberOfWrites cX3_numberOfWrites 1 (some .int) 0 := ⟨kWs_of 409 (by decide +kernel) rfl, mw_X3_numberOfWrites.2.1, mw_X3_numberOfWrites.2.2.1, mw_X3_numberOfWrites.2.2.2, mw_X3_numberOfWrites.1, rfl, by decide, by decide, by decide +kernel⟩
theorem v_X6_130 : kV RX6 130 RX4 yX4_hasConflict cX4_hasConflict 3 (some .boolean) 1 := ⟨kWs_of 423 (by decide +kernel) rfl, mw_X4_hasConflict.2.1, mw_X4_hasConflict.2.2.1, mw_X4_hasConflict.2.2.2, mw_X4_hasConflict.1, rfl, by decide, by decide, by decide +kernel⟩
theorem v_X6_134 : kV RX6 134 RX4 yX4_skewsOf cX4_skewsOf 4 (some .int) 1 := ⟨kWs_of 428 (by decide +kernel) rfl, mw_X4_skewsOf.2.1, mw_X4_skewsOf.2.2.1, mw_X4_skewsOf.2.2.2, mw_X4_skewsOf.1, rfl, by decide, by decide, by decide +kernel⟩
theorem v_X6_137 : kV RX6 137 RX4 yX4_oldVersionsWithout cX4_oldVersionsWithout 6 (some .int) 1 := ⟨kWs_of 436 (by decide +kernel) rfl, mw_X4_oldVersionsWithout.2.1, mw_X4_oldVersionsWithout.2.2.1, mw_X4_oldVersionsWithout.2.2.2, mw_X4_oldVersionsWithout.1, rfl, by decide, by decide, by decide +kernel⟩
theorem v_X6_140 : kV RX6 140 RX4 yX4_land cX4_land 3 none 1 := ⟨kWs_of 441 (by decide +kernel) rfl, mw_X4_land.2.1, mw_X4_land.2.2.1, mw_X4_land.2.2.2, mw_X4_land.1, rfl, by decide, by decide, by decide +kernel⟩
theorem g_X6_144 : kL RX6 144 RX4 TX4 11 tyX4 3 := ⟨by decide, inK4, tyX4_ok, nmX4, rfl, Or.inr ⟨"RentedMoments", List.mem_of_getElem? (i := 43) (by decide +kernel)⟩⟩
theorem g_X6_145 : kL RX6 145 RX5 TX5 5 tyX5 1 := ⟨by decide, inK5, tyX5_ok, nmX5, rfl, Or.inr ⟨"RentedMoments", List.mem_of_getElem? (i := 52) (by decide +kernel)⟩⟩
theorem v_X6_148 : kV RX6 148 RX5 yX5_add cX5_add 2 none 1 := ⟨kWs_of 462 (by decide +kernel) rfl, mw_X5_add.2.1, mw_X5_add.2.2.1, mw_X5_add.2.2.2, mw_X5_add.1, rfl, by decide, by decide, by decide +kernel⟩
theorem v_X6_152 : kV RX6 152 RX5 yX5_parse cX5_parse 6 (some .int) 0 := ⟨kWs_of 474 (by decide +kernel) rfl, mw_X5_parse.2.1, mw_X5_parse.2.2.1, mw_X5_parse.2.2.2, mw_X5_parse.1, rfl, by decide, by decide, by decide +kernel⟩
theorem v_X6_155 : kV RX6 155 RX5 yX5_greatestCell cX5_greatestCell 3 (some .int) 0 := ⟨kWs_of 494 (by decide +kernel) rfl, mw_X5_greatestCell.2.1, mw_X5_greatestCell.2.2.1, mw_X5_greatestCell.2.2.2, mw_X5_greatestCell.1, rfl, by decide, by decide, by decide +kernel⟩
theorem g_X6_158 : kL RX6 158 RX5 TX5 5 tyX5 4 := ⟨by decide, inK5, tyX5_ok, nmX5, rfl, Or.inr ⟨"RentedMoments", List.mem_of_getElem? (i := 55) (by decide +kernel)⟩⟩
theorem g_X6_160 : kL RX6 160 RX5 TX5 5 tyX5 2 := ⟨by decide, inK5, tyX5_ok, nmX5, rfl, Or.inr ⟨"RentedMoments", List.mem_of_getElem? (i := 53) (by decide +kernel)⟩⟩
theorem g_X6_162 : kL RX6 162 RX5 TX5 5 tyX5 3 := ⟨by decide, inK5, tyX5_ok, nmX5, rfl, Or.inr ⟨"RentedMoments", List.mem_of_getElem? (i := 54) (by decide +kernel)⟩⟩
theorem g_X6_165 : kL RX6 165 RX2 TX2 2 tyX2 1 := ⟨by decide, inK2, tyX2_ok, nmX2, rfl, Or.inr ⟨"RentedMoments", List.mem_of_getElem? (i := 50) (by decide +kernel)⟩⟩
theorem v_X6_166 : kV RX6 166 RX2 yX2_bringBack cX2_bringBack 2 none 1 := ⟨kWs_of 505 (by decide +kernel) rfl, mw_X2_bringBack.2.1, mw_X2_bringBack.2.2.1, mw_X2_bringBack.2.2.2, mw_X2_bringBack.1, rfl, by decide, by decide, by decide +kernel⟩
theorem v_X6_169 : kV RX6 169 RX4 yX4_copyFrom cX4_copyFrom 3 none 1 := ⟨kWs_of 513 (by decide +kernel) rfl, mw_X4_copyFrom.2.1, mw_X4_copyFrom.2.2.1, mw_X4_copyFrom.2.2.2, mw_X4_copyFrom.1, rfl, by decide, by decide, by decide +kernel⟩
theorem g_X6_172 : kL RX6 172 RX6 TX6 6 tyX6 5 := ⟨by decide, inK6, tyX6_ok, nmX6, rfl, Or.inl (kWs_of 235 (by decide +kernel) rfl)⟩
theorem g_X6_175 : kL RX6 175 RX0 TX0 3 tyX0 0 := ⟨by decide, inK0, tyX0_ok, nmX0, rfl, Or.inr ⟨"RentedMoments", List.mem_of_getElem? (i := 1) (by decide +kernel)⟩⟩
theorem g_X6_176 : kL RX6 176 RX0 TX0 3 tyX0 1 := ⟨by decide, inK0, tyX0_ok, nmX0, rfl, Or.inr ⟨"RentedMoments", List.mem_of_getElem? (i := 2) (by decide +kernel)⟩⟩
theorem g_X6_179 : kL RX6 179 RX0 TX0 3 tyX0 2 := ⟨by decide, inK0, tyX0_ok, nmX0, rfl, Or.inr ⟨"RentedMoments", List.mem_of_getElem? (i := 5) (by decide +kernel)⟩⟩
theorem v_X6_182 : kV RX6 182 RX4 yX4_seersOf cX4_seersOf 6 (some .int) 2 := ⟨kWs_of 522 (by decide +kernel) rfl, mw_X4_seersOf.2.1, mw_X4_seersOf.2.2.1, mw_X4_seersOf.2.2.2, mw_X4_seersOf.1, rfl, by decide, by decide, by decide +kernel⟩
theorem v_X6_186 : kV RX6 186 RX4 yX4_writersOf cX4_writersOf 4 (some .int) 1 := ⟨kWs_of 526 (by decide +kernel) rfl, mw_X4_writersOf.2.1, mw_X4_writersOf.2.2.1, mw_X4_writersOf.2.2.2, mw_X4_writersOf.1, rfl, by decide, by decide, by decide +kernel⟩
theorem v_X6_189 : kV RX6 189 RX4 yX4_payersOf cX4_payersOf 6 (some .int) 2 := ⟨kWs_of 534 (by decide +kernel) rfl, mw_X4_payersOf.2.1, mw_X4_payersOf.2.2.1, mw_X4_payersOf.2.2.2, mw_X4_payersOf.1, rfl, by decide, by decide, by decide +kernel⟩
theorem v_X6_192 : kV RX6 192 RX4 yX4_shareOf cX4_shareOf 4 (some .int) 2 := ⟨kWs_of 535 (by decide +kernel) rfl, mw_X4_shareOf.2.1, mw_X4_shareOf.2.2.1, mw_X4_shareOf.2.2.2, mw_X4_shareOf.1, rfl, by decide, by decide, by decide +kernel⟩
theorem g_X6_195 : kL RX6 195 RX3 TX3 9 tyX3 5 := ⟨by decide, inK3, tyX3_ok, nmX3, rfl, Or.inr ⟨"RentedMoments", List.mem_of_getElem? (i := 20) (by decide +kernel)⟩⟩
theorem g_X6_198 : kL RX6 198 RX3 TX3 9 tyX3 7 := ⟨by decide, inK3, tyX3_ok, nmX3, rfl, Or.inr ⟨"RentedMoments", List.mem_of_getElem? (i := 25) (by decide +kernel)⟩⟩
theorem v_X6_201 : kV RX6 201 RX4 yX4_oldVersionsSeenBy cX4_oldVersionsSeenBy 4 (some .int) 1 := ⟨kWs_of 540 (by decide +kernel) rfl, mw_X4_oldVersionsSeenBy.2.1, mw_X4_oldVersionsSeenBy.2.2.1, mw_X4_oldVersionsSeenBy.2.2.2, mw_X4_oldVersionsSeenBy.1, rfl, by decide, by decide, by decide +kernel⟩
theorem v_X6_204 : kV RX6 204 RX4 yX4_sumSeenBy cX4_sumSeenBy 4 (some .int) 1 := ⟨kWs_of 544 (by decide +kernel) rfl, mw_X4_sumSeenBy.2.1, mw_X4_sumSeenBy.2.2.1, mw_X4_sumSeenBy.2.2.2, mw_X4_sumSeenBy.1, rfl, by decide, by decide, by decide +kernel⟩
theorem g_X6_207 : kL RX6 207 RX4 TX4 11 tyX4 4 := ⟨by decide, inK4, tyX4_ok, nmX4, rfl, Or.inr ⟨"RentedMoments", List.mem_of_getElem? (i := 44) (by decide +kernel)⟩⟩
theorem g_X6_210 : kL RX6 210 RX4 TX4 11 tyX4 7 := ⟨by decide, inK4, tyX4_ok, nmX4, rfl, Or.inr ⟨"RentedMoments", List.mem_of_getElem? (i := 47) (by decide +kernel)⟩⟩
theorem g_X6_213 : kL RX6 213 RX4 TX4 11 tyX4 2 := ⟨by decide, inK4, tyX4_ok, nmX4, rfl, Or.inr ⟨"RentedMoments", List.mem_of_getElem? (i := 42) (by decide +kernel)⟩⟩
theorem g_X6_217 : kL RX6 217 RX1 TX1 6 tyX1 0 := ⟨by decide, inK1, tyX1_ok, nmX1, rfl, Or.inr ⟨"RentedMoments", List.mem_of_getElem? (i := 28) (by decide +kernel)⟩⟩
theorem g_X6_222 : kL RX6 222 RX1 TX1 6 tyX1 1 := ⟨by decide, inK1, tyX1_ok, nmX1, rfl, Or.inr ⟨"RentedMoments", List.mem_of_getElem? (i := 30) (by decide +kernel)⟩⟩
theorem g_X6_225 : kL RX6 225 RX1 TX1 6 tyX1 2 := ⟨by decide, inK1, tyX1_ok, nmX1, rfl, Or.inr ⟨"RentedMoments", List.mem_of_getElem? (i := 32) (by decide +kernel)⟩⟩
theorem g_X6_228 : kL RX6 228 RX1 TX1 6 tyX1 3 := ⟨by decide, inK1, tyX1_ok, nmX1, rfl, Or.inr ⟨"RentedMoments", List.mem_of_getElem? (i := 34) (by decide +kernel)⟩⟩
theorem g_X6_229 : kL RX6 229 RX1 TX1 6 tyX1 4 := ⟨by decide, inK1, tyX1_ok, nmX1, rfl, Or.inr ⟨"RentedMoments", List.mem_of_getElem? (i := 36) (by decide +kernel)⟩⟩
theorem g_X6_230 : kL RX6 230 RX1 TX1 6 tyX1 5 := ⟨by decide, inK1, tyX1_ok, nmX1, rfl, Or.inr ⟨"RentedMoments", List.mem_of_getElem? (i := 38) (by decide +kernel)⟩⟩
theorem v_X6_233 : kV RX6 233 RX4 yX4_oldVersions cX4_oldVersions 3 (some .int) 0 := ⟨kWs_of 561 (by decide +kernel) rfl, mw_X4_oldVersions.2.1, mw_X4_oldVersions.2.2.1, mw_X4_oldVersions.2.2.2, mw_X4_oldVersions.1, rfl, by decide, by decide, by decide +kernel⟩
theorem g_X6_236 : kL RX6 236 RX4 TX4 11 tyX4 8 := ⟨by decide, inK4, tyX4_ok, nmX4, rfl, Or.inr ⟨"RentedMoments", List.mem_of_getElem? (i := 48) (by decide +kernel)⟩⟩
theorem v_X6_239 : kV RX6 239 RX4 yX4_coinsPaid cX4_coinsPaid 3 (some .int) 0 := ⟨kWs_of 565 (by decide +kernel) rfl, mw_X4_coinsPaid.2.1, mw_X4_coinsPaid.2.2.1, mw_X4_coinsPaid.2.2.2, mw_X4_coinsPaid.1, rfl, by decide, by decide, by decide +kernel⟩
theorem v_X6_242 : kV RX6 242 RX4 yX4_openWidows cX4_openWidows 3 (some .int) 0 := ⟨kWs_of 569 (by decide +kernel) rfl, mw_X4_openWidows.2.1, mw_X4_openWidows.2.2.1, mw_X4_openWidows.2.2.2, mw_X4_openWidows.1, rfl, by decide, by decide, by decide +kernel⟩
theorem g_X7_7 : kL RX7 7 RX7 TX7 12 tyX7 0 := ⟨by decide, inK7, tyX7_ok, nmX7, rfl, Or.inl (kWs_of 579 (by decide +kernel) rfl)⟩
theorem g_X7_13 : kL RX7 13 RX7 TX7 12 tyX7 1 := ⟨by decide, inK7, tyX7_ok, nmX7, rfl, Or.inl (kWs_of 580 (by decide +kernel) rfl)⟩
theorem g_X7_16 : kL RX7 16 RX7 TX7 12 tyX7 4 := ⟨by decide, inK7, tyX7_ok, nmX7, rfl, Or.inl (kWs_of 583 (by decide +kernel) rfl)⟩
theorem g_X7_19 : kL RX7 19 RX7 TX7 12 tyX7 9 := ⟨by decide, inK7, tyX7_ok, nmX7, rfl, Or.inl (kWs_of 588 (by decide +kernel) rfl)⟩
theorem g_X7_22 : kL RX7 22 RX7 TX7 12 tyX7 10 := ⟨by decide, inK7, tyX7_ok, nmX7, rfl, Or.inl (kWs_of 589 (by decide +kernel) rfl)⟩
theorem g_X7_25 : kL RX7 25 RX7 TX7 12 tyX7 11 := ⟨by decide, inK7, tyX7_ok, nmX7, rfl, Or.inl (kWs_of 590 (by decide +kernel) rfl)⟩
theorem v_X7_28 : kVs RX7 28 yX7_isIn cX7_isIn 3 (some .boolean) 3 := ⟨kWs_of 644 (by decide +kernel) rfl, mw_X7_isIn.2.1, mw_X7_isIn.2.2, mw_X7_isIn.1, rfl, by decide, by decide, by decide +kernel⟩
theorem v_X7_32 : kV RX7 32 RX7 yX7_ofR cX7_ofR 3 (some .int) 2 := ⟨kWs_of 651 (by decide +kernel) rfl, mw_X7_ofR.2.1, mw_X7_ofR.2.2.1, mw_X7_ofR.2.2.2, mw_X7_ofR.1, rfl, by decide, by decide, by decide +kernel⟩
theorem g_X7_36 : kL RX7 36 RX7 TX7 12 tyX7 2 := ⟨by decide, inK7, tyX7_ok, nmX7, rfl, Or.inl (kWs_of 581 (by decide +kernel) rfl)⟩
theorem v_X7_40 : kV RX7 40 RX7 yX7_keeps cX7_keeps 3 none 1 := ⟨kWs_of 628 (by decide +kernel) rfl, mw_X7_keeps.2.1, mw_X7_keeps.2.2.1, mw_X7_keeps.2.2.2, mw_X7_keeps.1, rfl, by decide, by decide, by decide +kernel⟩
theorem v_X7_44 : kV RX7 44 RX7 yX7_brings cX7_brings 3 none 1 := ⟨kWs_of 620 (by decide +kernel) rfl, mw_X7_brings.2.1, mw_X7_brings.2.2.1, mw_X7_brings.2.2.2, mw_X7_brings.1, rfl, by decide, by decide, by decide +kernel⟩
theorem g_X7_47 : kL RX7 47 RX7 TX7 12 tyX7 3 := ⟨by decide, inK7, tyX7_ok, nmX7, rfl, Or.inl (kWs_of 582 (by decide +kernel) rfl)⟩
theorem v_X7_51 : kV RX7 51 RX7 yX7_records cX7_records 2 none 0 := ⟨kWs_of 636 (by decide +kernel) rfl, mw_X7_records.2.1, mw_X7_records.2.2.1, mw_X7_records.2.2.2, mw_X7_records.1, rfl, by decide, by decide, by decide +kernel⟩
theorem v_X7_54 : kV RX7 54 RX7 yX7_ofV cX7_ofV 3 (some .int) 2 := ⟨kWs_of 687 (by decide +kernel) rfl, mw_X7_ofV.2.1, mw_X7_ofV.2.2.1, mw_X7_ofV.2.2.2, mw_X7_ofV.1, rfl, by decide, by decide, by decide +kernel⟩
theorem v_X7_57 : kV RX7 57 RX7 yX7_versionAt cX7_versionAt 7 (some .int) 2 := ⟨kWs_of 695 (by decide +kernel) rfl, mw_X7_versionAt.2.1, mw_X7_versionAt.2.2.1, mw_X7_versionAt.2.2.2, mw_X7_versionAt.1, rfl, by decide, by decide, by decide +kernel⟩
theorem v_X7_60 : kV RX7 60 RX7 yX7_newest cX7_newest 2 (some .int) 1 := ⟨kWs_of 691 (by decide +kernel) rfl, mw_X7_newest.2.1, mw_X7_newest.2.2.1, mw_X7_newest.2.2.2, mw_X7_newest.1, rfl, by decide, by decide, by decide +kernel⟩
theorem v_X7_64 : kV RX7 64 RX7 yX7_isOpen cX7_isOpen 2 (some .boolean) 1 := ⟨kWs_of 667 (by decide +kernel) rfl, mw_X7_isOpen.2.1, mw_X7_isOpen.2.2.1, mw_X7_isOpen.2.2.2, mw_X7_isOpen.1, rfl, by decide, by decide, by decide +kernel⟩
theorem v_X7_68 : kV RX7 68 RX7 yX7_sees cX7_sees 3 (some .boolean) 2 := ⟨kWs_of 699 (by decide +kernel) rfl, mw_X7_sees.2.1, mw_X7_sees.2.2.1, mw_X7_sees.2.2.2, mw_X7_sees.1, rfl, by decide, by decide, by decide +kernel⟩
theorem v_X7_72 : kV RX7 72 RX7 yX7_isWidow cX7_isWidow 2 (some .boolean) 1 := ⟨kWs_of 679 (by decide +kernel) rfl, mw_X7_isWidow.2.1, mw_X7_isWidow.2.2.1, mw_X7_isWidow.2.2.2, mw_X7_isWidow.1, rfl, by decide, by decide, by decide +kernel⟩
theorem v_X7_75 : kV RX7 75 RX7 yX7_seenBy cX7_seenBy 5 (some .int) 2 := ⟨kWs_of 707 (by decide +kernel) rfl, mw_X7_seenBy.2.1, mw_X7_seenBy.2.2.1, mw_X7_seenBy.2.2.2, mw_X7_seenBy.1, rfl, by decide, by decide, by decide +kernel⟩
theorem v_X7_79 : kV RX7 79 RX7 yX7_isOld cX7_isOld 2 (some .boolean) 1 := ⟨kWs_of 683 (by decide +kernel) rfl, mw_X7_isOld.2.1, mw_X7_isOld.2.2.1, mw_X7_isOld.2.2.2, mw_X7_isOld.1, rfl, by decide, by decide, by decide +kernel⟩
theorem v_X7_82 : kV RX7 82 RX7 yX7_rentOf cX7_rentOf 3 (some .int) 1 := ⟨kWs_of 703 (by decide +kernel) rfl, mw_X7_rentOf.2.1, mw_X7_rentOf.2.2.1, mw_X7_rentOf.2.2.2, mw_X7_rentOf.1, rfl, by decide, by decide, by decide +kernel⟩
theorem v_X7_85 : kV RX7 85 RX7 yX7_ofState cX7_ofState 4 (some .int) 1 := ⟨kWs_of 647 (by decide +kernel) rfl, mw_X7_ofState.2.1, mw_X7_ofState.2.2.1, mw_X7_ofState.2.2.2, mw_X7_ofState.1, rfl, by decide, by decide, by decide +kernel⟩
theorem v_X7_88 : kV RX7 88 RX7 yX7_setsR cX7_setsR 4 none 3 := ⟨kWs_of 655 (by decide +kernel) rfl, mw_X7_setsR.2.1, mw_X7_setsR.2.2.1, mw_X7_setsR.2.2.2, mw_X7_setsR.1, rfl, by decide, by decide, by decide +kernel⟩
theorem v_X7_92 : kV RX7 92 RX7 yX7_isReader cX7_isReader 2 (some .boolean) 1 := ⟨kWs_of 663 (by decide +kernel) rfl, mw_X7_isReader.2.1, mw_X7_isReader.2.2.1, mw_X7_isReader.2.2.2, mw_X7_isReader.1, rfl, by decide, by decide, by decide +kernel⟩
theorem v_X7_95 : kV RX7 95 RX7 yX7_dueOf cX7_dueOf 4 (some .int) 1 := ⟨kWs_of 675 (by decide +kernel) rfl, mw_X7_dueOf.2.1, mw_X7_dueOf.2.2.1, mw_X7_dueOf.2.2.2, mw_X7_dueOf.1, rfl, by decide, by decide, by decide +kernel⟩
theorem v_X7_98 : kV RX7 98 RX7 yX7_removes cX7_removes 4 (some .int) 0 := ⟨kWs_of 715 (by decide +kernel) rfl, mw_X7_removes.2.1, mw_X7_removes.2.2.1, mw_X7_removes.2.2.2, mw_X7_removes.1, rfl, by decide, by decide, by decide +kernel⟩
theorem v_X7_102 : kV RX7 102 RX7 yX7_pairs cX7_pairs 3 (some .int) 0 := ⟨kWs_of 727 (by decide +kernel) rfl, mw_X7_pairs.2.1, mw_X7_pairs.2.2.1, mw_X7_pairs.2.2.2, mw_X7_pairs.1, rfl, by decide, by decide, by decide +kernel⟩
theorem v_X7_105 : kV RX7 105 RX7 yX7_passes cX7_passes 3 (some .int) 0 := ⟨kWs_of 746 (by decide +kernel) rfl, mw_X7_passes.2.1, mw_X7_passes.2.2.1, mw_X7_passes.2.2.2, mw_X7_passes.1, rfl, by decide, by decide, by decide +kernel⟩
theorem v_X7_108 : kVs RX7 108 yX7_isCell cX7_isCell 1 (some .boolean) 1 := ⟨kWs_of 758 (by decide +kernel) rfl, mw_X7_isCell.2.1, mw_X7_isCell.2.2, mw_X7_isCell.1, rfl, by decide, by decide, by decide +kernel⟩
theorem v_X7_111 : kVs RX7 111 yX7_has cX7_has 2 (some .boolean) 2 := ⟨kWs_of 761 (by decide +kernel) rfl, mw_X7_has.2.1, mw_X7_has.2.2, mw_X7_has.1, rfl, by decide, by decide, by decide +kernel⟩
theorem v_X7_114 : kV RX7 114 RX7 yX7_writes cX7_writes 4 none 3 := ⟨kWs_of 768 (by decide +kernel) rfl, mw_X7_writes.2.1, mw_X7_writes.2.2.1, mw_X7_writes.2.2.2, mw_X7_writes.1, rfl, by decide, by decide, by decide +kernel⟩
theorem v_X7_117 : kVs RX7 117 yX7_ones cX7_ones 3 (some .int) 1 := ⟨kWs_of 772 (by decide +kernel) rfl, mw_X7_ones.2.1, mw_X7_ones.2.2, mw_X7_ones.1, rfl, by decide, by decide, by decide +kernel⟩
theorem v_X7_120 : kV RX7 120 RX7 yX7_ofC cX7_ofC 3 (some .int) 2 := ⟨kWs_of 735 (by decide +kernel) rfl, mw_X7_ofC.2.1, mw_X7_ofC.2.2.1, mw_X7_ofC.2.2.2, mw_X7_ofC.1, rfl, by decide, by decide, by decide +kernel⟩
theorem v_X7_123 : kVs RX7 123 yX7_areSkew cX7_areSkew 4 (some .boolean) 4 := ⟨kWs_of 739 (by decide +kernel) rfl, mw_X7_areSkew.2.1, mw_X7_areSkew.2.2, mw_X7_areSkew.1, rfl, by decide, by decide, by decide +kernel⟩
theorem v_X7_127 : kV RX7 127 RX7 yX7_skews cX7_skews 5 (some .int) 1 := ⟨kWs_of 731 (by decide +kernel) rfl, mw_X7_skews.2.1, mw_X7_skews.2.2.1, mw_X7_skews.2.2.2, mw_X7_skews.1, rfl, by decide, by decide, by decide +kernel⟩
theorem v_X7_130 : kV RX7 130 RX7 yX7_hasConflict cX7_hasConflict 4 (some .boolean) 1 := ⟨kWs_of 779 (by decide +kernel) rfl, mw_X7_hasConflict.2.1, mw_X7_hasConflict.2.2.1, mw_X7_hasConflict.2.2.2, mw_X7_hasConflict.1, rfl, by decide, by decide, by decide +kernel⟩
theorem v_X7_133 : kV RX7 133 RX7 yX7_skewsOf cX7_skewsOf 5 (some .int) 1 := ⟨kWs_of 783 (by decide +kernel) rfl, mw_X7_skewsOf.2.1, mw_X7_skewsOf.2.2.1, mw_X7_skewsOf.2.2.2, mw_X7_skewsOf.1, rfl, by decide, by decide, by decide +kernel⟩
theorem v_X7_136 : kV RX7 136 RX7 yX7_commits cX7_commits 5 none 1 := ⟨kWs_of 787 (by decide +kernel) rfl, mw_X7_commits.2.1, mw_X7_commits.2.2.1, mw_X7_commits.2.2.2, mw_X7_commits.1, rfl, by decide, by decide, by decide +kernel⟩
theorem v_X7_139 : kV RX7 139 RX7 yX7_oldMany cX7_oldMany 1 (some .int) 0 := ⟨kWs_of 791 (by decide +kernel) rfl, mw_X7_oldMany.2.1, mw_X7_oldMany.2.2.1, mw_X7_oldMany.2.2.2, mw_X7_oldMany.1, rfl, by decide, by decide, by decide +kernel⟩
theorem v_X7_142 : kV RX7 142 RX7 yX7_commitsFor cX7_commitsFor 2 (some .int) 1 := ⟨kWs_of 795 (by decide +kernel) rfl, mw_X7_commitsFor.2.1, mw_X7_commitsFor.2.2.1, mw_X7_commitsFor.2.2.2, mw_X7_commitsFor.1, rfl, by decide, by decide, by decide +kernel⟩
theorem g_X7_145 : kL RX7 145 RX7 TX7 12 tyX7 5 := ⟨by decide, inK7, tyX7_ok, nmX7, rfl, Or.inl (kWs_of 584 (by decide +kernel) rfl)⟩
theorem g_X7_148 : kL RX7 148 RX7 TX7 12 tyX7 6 := ⟨by decide, inK7, tyX7_ok, nmX7, rfl, Or.inl (kWs_of 585 (by decide +kernel) rfl)⟩
theorem v_X7_151 : kV RX7 151 RX7 yX7_isHere cX7_isHere 3 (some .boolean) 2 := ⟨kWs_of 823 (by decide +kernel) rfl, mw_X7_isHere.2.1, mw_X7_isHere.2.2.1, mw_X7_isHere.2.2.2, mw_X7_isHere.1, rfl, by decide, by decide, by decide +kernel⟩
theorem g_X7_154 : kL RX7 154 RX7 TX7 12 tyX7 7 := ⟨by decide, inK7, tyX7_ok, nmX7, rfl, Or.inl (kWs_of 586 (by decide +kernel) rfl)⟩
theorem v_X7_157 : kV RX7 157 RX7 yX7_passesNumber cX7_passesNumber 4 (some .boolean) 1 := ⟨kWs_of 819 (by decide +kernel) rfl, mw_X7_passesNumber.2.1, mw_X7_passesNumber.2.2.1, mw_X7_passesNumber.2.2.2, mw_X7_passesNumber.1, rfl, by decide, by decide, by decide +kernel⟩
theorem g_X7_160 : kL RX7 160 RX7 TX7 12 tyX7 8 := ⟨by decide, inK7, tyX7_ok, nmX7, rfl, Or.inl (kWs_of 587 (by decide +kernel) rfl)⟩
theorem v_X7_162 : kV RX7 162 RX7 yX7_passesSign cX7_passesSign 3 (some .boolean) 1 := ⟨kWs_of 827 (by decide +kernel) rfl, mw_X7_passesSign.2.1, mw_X7_passesSign.2.2.1, mw_X7_passesSign.2.2.2, mw_X7_passesSign.1, rfl, by decide, by decide, by decide +kernel⟩
theorem v_X7_165 : kV RX7 165 RX7 yX7_passesWrite cX7_passesWrite 1 (some .boolean) 0 := ⟨kWs_of 815 (by decide +kernel) rfl, mw_X7_passesWrite.2.1, mw_X7_passesWrite.2.2.1, mw_X7_passesWrite.2.2.2, mw_X7_passesWrite.1, rfl, by decide, by decide, by decide +kernel⟩
theorem v_X7_169 : kV RX7 169 RX7 yX7_faultOf cX7_faultOf 1 (some .int) 0 := ⟨kWs_of 811 (by decide +kernel) rfl, mw_X7_faultOf.2.1, mw_X7_faultOf.2.2.1, mw_X7_faultOf.2.2.2, mw_X7_faultOf.1, rfl, by decide, by decide, by decide +kernel⟩
theorem v_X7_172 : kV RX7 172 RX7 yX7_versionsOf cX7_versionsOf 4 (some .int) 1 := ⟨kWs_of 835 (by decide +kernel) rfl, mw_X7_versionsOf.2.1, mw_X7_versionsOf.2.2.1, mw_X7_versionsOf.2.2.2, mw_X7_versionsOf.1, rfl, by decide, by decide, by decide +kernel⟩
theorem v_X7_175 : kV RX7 175 RX7 yX7_writers cX7_writers 4 (some .int) 1 := ⟨kWs_of 839 (by decide +kernel) rfl, mw_X7_writers.2.1, mw_X7_writers.2.2.1, mw_X7_writers.2.2.2, mw_X7_writers.1, rfl, by decide, by decide, by decide +kernel⟩
theorem v_X7_178 : kV RX7 178 RX7 yX7_seen cX7_seen 6 (some .int) 2 := ⟨kWs_of 851 (by decide +kernel) rfl, mw_X7_seen.2.1, mw_X7_seen.2.2.1, mw_X7_seen.2.2.2, mw_X7_seen.1, rfl, by decide, by decide, by decide +kernel⟩
theorem v_X7_181 : kV RX7 181 RX7 yX7_widows cX7_widows 3 (some .int) 0 := ⟨kWs_of 863 (by decide +kernel) rfl, mw_X7_widows.2.1, mw_X7_widows.2.2.1, mw_X7_widows.2.2.2, mw_X7_widows.1, rfl, by decide, by decide, by decide +kernel⟩
theorem g_X0_9 : kL RX0 9 RX0 TX0 3 tyX0 0 := ⟨by decide, inK0, tyX0_ok, nmX0, rfl, Or.inl (kWs_of 37 (by decide +kernel) rfl)⟩
theorem g_X0_15 : kL RX0 15 RX0 TX0 3 tyX0 1 := ⟨by decide, inK0, tyX0_ok, nmX0, rfl, Or.inl (kWs_of 39 (by decide +kernel) rfl)⟩
theorem g_X0_18 : kL RX0 18 RX0 TX0 3 tyX0 2 := ⟨by decide, inK0, tyX0_ok, nmX0, rfl, Or.inl (kWs_of 42 (by decide +kernel) rfl)⟩
theorem v_X0_28 : kV RX0 28 RX0 yX0_placeSeenAt cX0_placeSeenAt 3 (some .int) 1 := ⟨kWs_of 400 (by decide +kernel) rfl, mw_X0_placeSeenAt.2.1, mw_X0_placeSeenAt.2.2.1, mw_X0_placeSeenAt.2.2.2, mw_X0_placeSeenAt.1, rfl, by decide, by decide, by decide +kernel⟩
theorem g_X1_7 : kL RX1 7 RX1 TX1 6 tyX1 0 := ⟨by decide, inK1, tyX1_ok, nmX1, rfl, Or.inl (kWs_of 111 (by decide +kernel) rfl)⟩
theorem g_X1_13 : kL RX1 13 RX1 TX1 6 tyX1 1 := ⟨by decide, inK1, tyX1_ok, nmX1, rfl, Or.inl (kWs_of 114 (by decide +kernel) rfl)⟩
theorem g_X1_16 : kL RX1 16 RX1 TX1 6 tyX1 2 := ⟨by decide, inK1, tyX1_ok, nmX1, rfl, Or.inl (kWs_of 117 (by decide +kernel) rfl)⟩
theorem g_X1_19 : kL RX1 19 RX1 TX1 6 tyX1 3 := ⟨by decide, inK1, tyX1_ok, nmX1, rfl, Or.inl (kWs_of 120 (by decide +kernel) rfl)⟩
theorem g_X1_22 : kL RX1 22 RX1 TX1 6 tyX1 4 := ⟨by decide, inK1, tyX1_ok, nmX1, rfl, Or.inl (kWs_of 123 (by decide +kernel) rfl)⟩
theorem g_X1_25 : kL RX1 25 RX1 TX1 6 tyX1 5 := ⟨by decide, inK1, tyX1_ok, nmX1, rfl, Or.inl (kWs_of 126 (by decide +kernel) rfl)⟩
theorem g_X1_28 : kL RX1 28 RX3 TX3 9 tyX3 2 := ⟨by decide, inK3, tyX3_ok, nmX3, rfl, Or.inr ⟨"RentedMoments", List.mem_of_getElem? (i := 11) (by decide +kernel)⟩⟩
theorem g_X1_33 : kL RX1 33 RX3 TX3 9 tyX3 4 := ⟨by decide, inK3, tyX3_ok, nmX3, rfl, Or.inr ⟨"RentedMoments", List.mem_of_getElem? (i := 16) (by decide +kernel)⟩⟩
theorem g_X1_34 : kL RX1 34 RX3 TX3 9 tyX3 5 := ⟨by decide, inK3, tyX3_ok, nmX3, rfl, Or.inr ⟨"RentedMoments", List.mem_of_getElem? (i := 19) (by decide +kernel)⟩⟩
theorem g_X2_11 : kL RX2 11 RX2 TX2 2 tyX2 0 := ⟨by decide, inK2, tyX2_ok, nmX2, rfl, Or.inl (kWs_of 195 (by decide +kernel) rfl)⟩
theorem g_X2_18 : kL RX2 18 RX2 TX2 2 tyX2 1 := ⟨by decide, inK2, tyX2_ok, nmX2, rfl, Or.inl (kWs_of 196 (by decide +kernel) rfl)⟩
theorem v_X2_22 : kV RX2 22 RX2 yX2_dropOldest cX2_dropOldest 3 none 0 := ⟨kWs_of 261 (by decide +kernel) rfl, mw_X2_dropOldest.2.1, mw_X2_dropOldest.2.2.1, mw_X2_dropOldest.2.2.2, mw_X2_dropOldest.1, rfl, by decide, by decide, by decide +kernel⟩
theorem v_X2_25 : kV RX2 25 RX4 yX4_copyFrom cX4_copyFrom 3 none 1 := ⟨kWs_of 265 (by decide +kernel) rfl, mw_X4_copyFrom.2.1, mw_X4_copyFrom.2.2.1, mw_X4_copyFrom.2.2.2, mw_X4_copyFrom.1, rfl, by decide, by decide, by decide +kernel⟩
theorem g_X3_9 : kL RX3 9 RX3 TX3 9 tyX3 0 := ⟨by decide, inK3, tyX3_ok, nmX3, rfl, Or.inl (kWs_of 58 (by decide +kernel) rfl)⟩
theorem g_X3_15 : kL RX3 15 RX3 TX3 9 tyX3 1 := ⟨by decide, inK3, tyX3_ok, nmX3, rfl, Or.inl (kWs_of 61 (by decide +kernel) rfl)⟩
theorem g_X3_19 : kL RX3 19 RX3 TX3 9 tyX3 2 := ⟨by decide, inK3, tyX3_ok, nmX3, rfl, Or.inl (kWs_of 64 (by decide +kernel) rfl)⟩
theorem g_X3_22 : kL RX3 22 RX3 TX3 9 tyX3 3 := ⟨by decide, inK3, tyX3_ok, nmX3, rfl, Or.inl (kWs_of 68 (by decide +kernel) rfl)⟩
theorem g_X3_25 : kL RX3 25 RX3 TX3 9 tyX3 4 := ⟨by decide, inK3, tyX3_ok, nmX3, rfl, Or.inl (kWs_of 71 (by decide +kernel) rfl)⟩
theorem g_X3_28 : kL RX3 28 RX3 TX3 9 tyX3 5 := ⟨by decide, inK3, tyX3_ok, nmX3, rfl, Or.inl (kWs_of 75 (by decide +kernel) rfl)⟩
theorem g_X3_31 : kL RX3 31 RX3 TX3 9 tyX3 6 := ⟨by decide, inK3, tyX3_ok, nmX3, rfl, Or.inl (kWs_of 79 (by decide +kernel) rfl)⟩
theorem g_X3_34 : kL RX3 34 RX3 TX3 9 tyX3 7 := ⟨by decide, inK3, tyX3_ok, nmX3, rfl, Or.inl (kWs_of 82 (by decide +kernel) rfl)⟩
theorem g_X3_37 : kL RX3 37 RX3 TX3 9 tyX3 8 := ⟨by decide, inK3, tyX3_ok, nmX3, rfl, Or.inl (kWs_of 85 (by decide +kernel) rfl)⟩
theorem g_X4_11 : kL RX4 11 RX4 TX4 11 tyX4 0 := ⟨by decide, inK4, tyX4_ok, nmX4, rfl, Or.inl (kWs_of 142 (by decide +kernel) rfl)⟩
theorem g_X4_19 : kL RX4 19 RX4 TX4 11 tyX4 1 := ⟨by decide, inK4, tyX4_ok, nmX4, rfl, Or.inl (kWs_of 144 (by decide +kernel) rfl)⟩
theorem g_X4_25 : kL RX4 25 RX4 TX4 11 tyX4 2 := ⟨by decide, inK4, tyX4_ok, nmX4, rfl, Or.inl (kWs_of 146 (by decide +kernel) rfl)⟩
theorem g_X4_29 : kL RX4 29 RX4 TX4 11 tyX4 5 := ⟨by decide, inK4, tyX4_ok, nmX4, rfl, Or.inl (kWs_of 152 (by decide +kernel) rfl)⟩
theorem g_X4_33 : kL RX4 33 RX4 TX4 11 tyX4 10 := ⟨by decide, inK4, tyX4_ok, nmX4, rfl, Or.inl (kWs_of 162 (by decide +kernel) rfl)⟩
theorem v_X4_40 : kV RX4 40 RX0 yX0_copyFrom cX0_copyFrom 2 none 1 := ⟨kWs_of 269 (by decide +kernel) rfl, mw_X0_copyFrom.2.1, mw_X0_copyFrom.2.2.1, mw_X0_copyFrom.2.2.2, mw_X0_copyFrom.1, rfl, by decide, by decide, by decide +kernel⟩
theorem g_X4_44 : kL RX4 44 RX4 TX4 11 tyX4 6 := ⟨by decide, inK4, tyX4_ok, nmX4, rfl, Or.inl (kWs_of 155 (by decide +kernel) rfl)⟩
theorem v_X4_47 : kV RX4 47 RX3 yX3_copyFrom cX3_copyFrom 2 none 1 := ⟨kWs_of 276 (by decide +kernel) rfl, mw_X3_copyFrom.2.1, mw_X3_copyFrom.2.2.1, mw_X3_copyFrom.2.2.2, mw_X3_copyFrom.1, rfl, by decide, by decide, by decide +kernel⟩
theorem g_X4_50 : kL RX4 50 RX4 TX4 11 tyX4 7 := ⟨by decide, inK4, tyX4_ok, nmX4, rfl, Or.inl (kWs_of 156 (by decide +kernel) rfl)⟩
theorem v_X4_53 : kV RX4 53 RX1 yX1_copyFrom cX1_copyFrom 2 none 1 := ⟨kWs_of 281 (by decide +kernel) rfl, mw_X1_copyFrom.2.1, mw_X1_copyFrom.2.2.1, mw_X1_copyFrom.2.2.2, mw_X1_copyFrom.1, rfl, by decide, by decide, by decide +kernel⟩
theorem g_X4_56 : kL RX4 56 RX4 TX4 11 tyX4 3 := ⟨by decide, inK4, tyX4_ok, nmX4, rfl, Or.inl (kWs_of 148 (by decide +kernel) rfl)⟩
theorem g_X4_59 : kL RX4 59 RX4 TX4 11 tyX4 4 := ⟨by decide, inK4, tyX4_ok, nmX4, rfl, Or.inl (kWs_of 150 (by decide +kernel) rfl)⟩
theorem g_X4_62 : kL RX4 62 RX4 TX4 11 tyX4 8 := ⟨by decide, inK4, tyX4_ok, nmX4, rfl, Or.inl (kWs_of 158 (by decide +kernel) rfl)⟩
theorem g_X4_65 : kL RX4 65 RX4 TX4 11 tyX4 9 := ⟨by decide, inK4, tyX4_ok, nmX4, rfl, Or.inl (kWs_of 160 (by decide +kernel) rfl)⟩
theorem v_X4_69 : kV RX4 69 RX3 yX3_begin cX3_begin 3 none 2 := ⟨kWs_of 289 (by decide +kernel) rfl, mw_X3_begin.2.1, mw_X3_begin.2.2.1, mw_X3_begin.2.2.2, mw_X3_begin.1, rfl, by decide, by decide, by decide +kernel⟩
theorem g_X4_73 : kL RX4 73 RX3 TX3 9 tyX3 1 := ⟨by decide, inK3, tyX3_ok, nmX3, rfl, Or.inr ⟨"RentedMoments", List.mem_of_getElem? (i := 9) (by decide +kernel)⟩⟩
theorem v_X4_76 : kV RX4 76 RX3 yX3_isOpenWidow cX3_isOpenWidow 1 (some .boolean) 0 := ⟨kWs_of 379 (by decide +kernel) rfl, mw_X3_isOpenWidow.2.1, mw_X3_isOpenWidow.2.2.1, mw_X3_isOpenWidow.2.2.2, mw_X3_isOpenWidow.1, rfl, by decide, by decide, by decide +kernel⟩
theorem g_X4_80 : kL RX4 80 RX3 TX3 9 tyX3 7 := ⟨by decide, inK3, tyX3_ok, nmX3, rfl, Or.inr ⟨"RentedMoments", List.mem_of_getElem? (i := 24) (by decide +kernel)⟩⟩
theorem v_X4_83 : kV RX4 83 RX3 yX3_isOpen cX3_isOpen 1 (some .boolean) 0 := ⟨kWs_of 341 (by decide +kernel) rfl, mw_X3_isOpen.2.1, mw_X3_isOpen.2.2.1, mw_X3_isOpen.2.2.2, mw_X3_isOpen.1, rfl, by decide, by decide, by decide +kernel⟩
theorem v_X4_86 : kV RX4 86 RX3 yX3_hasWrite cX3_hasWrite 2 (some .boolean) 1 := ⟨kWs_of 427 (by decide +kernel) rfl, mw_X3_hasWrite.2.1, mw_X3_hasWrite.2.2.1, mw_X3_hasWrite.2.2.2, mw_X3_hasWrite.1, rfl, by decide, by decide, by decide +kernel⟩
theorem g_X4_90 : kL RX4 90 RX3 TX3 9 tyX3 2 := ⟨by decide, inK3, tyX3_ok, nmX3, rfl, Or.inr ⟨"RentedMoments", List.mem_of_getElem? (i := 12) (by decide +kernel)⟩⟩
theorem v_X4_91 : kV RX4 91 RX0 yX0_placeSeenAt cX0_placeSeenAt 3 (some .int) 1 := ⟨kWs_of 317 (by decide +kernel) rfl, mw_X0_placeSeenAt.2.1, mw_X0_placeSeenAt.2.2.1, mw_X0_placeSeenAt.2.2.2, mw_X0_placeSeenAt.1, rfl, by decide, by decide, by decide +kernel⟩
theorem v_X4_95 : kV RX4 95 RX3 yX3_paysRent cX3_paysRent 1 (some .boolean) 0 := ⟨kWs_of 313 (by decide +kernel) rfl, mw_X3_paysRent.2.1, mw_X3_paysRent.2.2.1, mw_X3_paysRent.2.2.2, mw_X3_paysRent.1, rfl, by decide, by decide, by decide +kernel⟩
theorem g_X4_98 : kL RX4 98 RX0 TX0 3 tyX0 2 := ⟨by decide, inK0, tyX0_ok, nmX0, rfl, Or.inr ⟨"RentedMoments", List.mem_of_getElem? (i := 4) (by decide +kernel)⟩⟩
theorem v_X4_101 : kV RX4 101 RX0 yX0_valueSeenAt cX0_valueSeenAt 3 (some .int) 1 := ⟨kWs_of 548 (by decide +kernel) rfl, mw_X0_valueSeenAt.2.1, mw_X0_valueSeenAt.2.2.1, mw_X0_valueSeenAt.2.2.2, mw_X0_valueSeenAt.1, rfl, by decide, by decide, by decide +kernel⟩
theorem v_X4_104 : kV RX4 104 RX4 yX4_placesSeen cX4_placesSeen 6 (some .int) 2 := ⟨kWs_of 337 (by decide +kernel) rfl, mw_X4_placesSeen.2.1, mw_X4_placesSeen.2.2.1, mw_X4_placesSeen.2.2.2, mw_X4_placesSeen.1, rfl, by decide, by decide, by decide +kernel⟩
theorem v_X4_108 : kV RX4 108 RX0 yX0_retainOld cX0_retainOld 4 (some .int) 1 := ⟨kWs_of 342 (by decide +kernel) rfl, mw_X0_retainOld.2.1, mw_X0_retainOld.2.2.1, mw_X0_retainOld.2.2.2, mw_X0_retainOld.1, rfl, by decide, by decide, by decide +kernel⟩
theorem v_X4_111 : kV RX4 111 RX4 yX4_payersOf cX4_payersOf 6 (some .int) 2 := ⟨kWs_of 325 (by decide +kernel) rfl, mw_X4_payersOf.2.1, mw_X4_payersOf.2.2.1, mw_X4_payersOf.2.2.2, mw_X4_payersOf.1, rfl, by decide, by decide, by decide +kernel⟩
theorem v_X4_114 : kV RX4 114 RX4 yX4_shareOf cX4_shareOf 4 (some .int) 2 := ⟨kWs_of 321 (by decide +kernel) rfl, mw_X4_shareOf.2.1, mw_X4_shareOf.2.2.1, mw_X4_shareOf.2.2.2, mw_X4_shareOf.1, rfl, by decide, by decide, by decide +kernel⟩
theorem v_X4_117 : kV RX4 117 RX4 yX4_dueOf cX4_dueOf 4 (some .int) 1 := ⟨kWs_of 370 (by decide +kernel) rfl, mw_X4_dueOf.2.1, mw_X4_dueOf.2.2.1, mw_X4_dueOf.2.2.2, mw_X4_dueOf.1, rfl, by decide, by decide, by decide +kernel⟩
theorem v_X4_121 : kV RX4 121 RX4 yX4_tellDues cX4_tellDues 2 none 0 := ⟨kWs_of 366 (by decide +kernel) rfl, mw_X4_tellDues.2.1, mw_X4_tellDues.2.2.1, mw_X4_tellDues.2.2.2, mw_X4_tellDues.1, rfl, by decide, by decide, by decide +kernel⟩
theorem v_X4_124 : kV RX4 124 RX4 yX4_takeDues cX4_takeDues 4 (some .boolean) 0 := ⟨kWs_of 371 (by decide +kernel) rfl, mw_X4_takeDues.2.1, mw_X4_takeDues.2.2.1, mw_X4_takeDues.2.2.2, mw_X4_takeDues.1, rfl, by decide, by decide, by decide +kernel⟩
theorem v_X4_127 : kV RX4 127 RX4 yX4_shortenTerms cX4_shortenTerms 4 (some .boolean) 0 := ⟨kWs_of 375 (by decide +kernel) rfl, mw_X4_shortenTerms.2.1, mw_X4_shortenTerms.2.2.1, mw_X4_shortenTerms.2.2.2, mw_X4_shortenTerms.1, rfl, by decide, by decide, by decide +kernel⟩
theorem v_X4_130 : kV RX4 130 RX4 yX4_removeUnseen cX4_removeUnseen 3 (some .int) 0 := ⟨kWs_of 383 (by decide +kernel) rfl, mw_X4_removeUnseen.2.1, mw_X4_removeUnseen.2.2.1, mw_X4_removeUnseen.2.2.2, mw_X4_removeUnseen.1, rfl, by decide, by decide, by decide +kernel⟩
theorem v_X4_134 : kV RX4 134 RX4 yX4_hasReader cX4_hasReader 2 (some .boolean) 1 := ⟨kWs_of 384 (by decide +kernel) rfl, mw_X4_hasReader.2.1, mw_X4_hasReader.2.2.1, mw_X4_hasReader.2.2.2, mw_X4_hasReader.1, rfl, by decide, by decide, by decide +kernel⟩
theorem g_X4_137 : kL RX4 137 RX3 TX3 9 tyX3 3 := ⟨by decide, inK3, tyX3_ok, nmX3, rfl, Or.inr ⟨"RentedMoments", List.mem_of_getElem? (i := 15) (by decide +kernel)⟩⟩
theorem g_X4_140 : kL RX4 140 RX3 TX3 9 tyX3 6 := ⟨by decide, inK3, tyX3_ok, nmX3, rfl, Or.inr ⟨"RentedMoments", List.mem_of_getElem? (i := 23) (by decide +kernel)⟩⟩
theorem g_X4_143 : kL RX4 143 RX0 TX0 3 tyX0 1 := ⟨by decide, inK0, tyX0_ok, nmX0, rfl, Or.inr ⟨"RentedMoments", List.mem_of_getElem? (i := 3) (by decide +kernel)⟩⟩
theorem v_X4_146 : kV RX4 146 RX1 yX1_isInSkewWithLater cX1_isInSkewWithLater 2 (some .boolean) 1 := ⟨kWs_of 432 (by decide +kernel) rfl, mw_X1_isInSkewWithLater.2.1, mw_X1_isInSkewWithLater.2.2.1, mw_X1_isInSkewWithLater.2.2.2, mw_X1_isInSkewWithLater.1, rfl, by decide, by decide, by decide +kernel⟩
theorem g_X4_150 : kL RX4 150 RX1 TX1 6 tyX1 5 := ⟨by decide, inK1, tyX1_ok, nmX1, rfl, Or.inr ⟨"RentedMoments", List.mem_of_getElem? (i := 39) (by decide +kernel)⟩⟩
theorem g_X4_158 : kL RX4 158 RX3 TX3 9 tyX3 5 := ⟨by decide, inK3, tyX3_ok, nmX3, rfl, Or.inr ⟨"RentedMoments", List.mem_of_getElem? (i := 21) (by decide +kernel)⟩⟩
theorem v_X4_161 : kV RX4 161 RX4 yX4_noteCommit cX4_noteCommit 4 none 1 := ⟨kWs_of 445 (by decide +kernel) rfl, mw_X4_noteCommit.2.1, mw_X4_noteCommit.2.2.1, mw_X4_noteCommit.2.2.2, mw_X4_noteCommit.1, rfl, by decide, by decide, by decide +kernel⟩
theorem v_X4_165 : kV RX4 165 RX4 yX4_pushWrites cX4_pushWrites 3 none 1 := ⟨kWs_of 450 (by decide +kernel) rfl, mw_X4_pushWrites.2.1, mw_X4_pushWrites.2.2.1, mw_X4_pushWrites.2.2.2, mw_X4_pushWrites.1, rfl, by decide, by decide, by decide +kernel⟩
theorem g_X4_168 : kL RX4 168 RX1 TX1 6 tyX1 0 := ⟨by decide, inK1, tyX1_ok, nmX1, rfl, Or.inr ⟨"RentedMoments", List.mem_of_getElem? (i := 29) (by decide +kernel)⟩⟩
theorem g_X4_171 : kL RX4 171 RX1 TX1 6 tyX1 1 := ⟨by decide, inK1, tyX1_ok, nmX1, rfl, Or.inr ⟨"RentedMoments", List.mem_of_getElem? (i := 31) (by decide +kernel)⟩⟩
theorem g_X4_174 : kL RX4 174 RX1 TX1 6 tyX1 2 := ⟨by decide, inK1, tyX1_ok, nmX1, rfl, Or.inr ⟨"RentedMoments", List.mem_of_getElem? (i := 33) (by decide +kernel)⟩⟩
theorem g_X4_177 : kL RX4 177 RX1 TX1 6 tyX1 3 := ⟨by decide, inK1, tyX1_ok, nmX1, rfl, Or.inr ⟨"RentedMoments", List.mem_of_getElem? (i := 35) (by decide +kernel)⟩⟩
theorem g_X4_178 : kL RX4 178 RX3 TX3 9 tyX3 4 := ⟨by decide, inK3, tyX3_ok, nmX3, rfl, Or.inr ⟨"RentedMoments", List.mem_of_getElem? (i := 18) (by decide +kernel)⟩⟩
theorem g_X4_181 : kL RX4 181 RX1 TX1 6 tyX1 4 := ⟨by decide, inK1, tyX1_ok, nmX1, rfl, Or.inr ⟨"RentedMoments", List.mem_of_getElem? (i := 37) (by decide +kernel)⟩⟩
theorem v_X4_182 : kV RX4 182 RX4 yX4_skewsOf cX4_skewsOf 4 (some .int) 1 := ⟨kWs_of 449 (by decide +kernel) rfl, mw_X4_skewsOf.2.1, mw_X4_skewsOf.2.2.1, mw_X4_skewsOf.2.2.2, mw_X4_skewsOf.1, rfl, by decide, by decide, by decide +kernel⟩
theorem g_X4_185 : kL RX4 185 RX3 TX3 9 tyX3 0 := ⟨by decide, inK3, tyX3_ok, nmX3, rfl, Or.inr ⟨"RentedMoments", List.mem_of_getElem? (i := 8) (by decide +kernel)⟩⟩
theorem v_X4_188 : kV RX4 188 RX0 yX0_push cX0_push 3 none 2 := ⟨kWs_of 454 (by decide +kernel) rfl, mw_X0_push.2.1, mw_X0_push.2.2.1, mw_X0_push.2.2.2, mw_X0_push.1, rfl, by decide, by decide, by decide +kernel⟩
theorem g_X5_9 : kL RX5 9 RX5 TX5 5 tyX5 0 := ⟨by decide, inK5, tyX5_ok, nmX5, rfl, Or.inl (kWs_of 209 (by decide +kernel) rfl)⟩
theorem g_X5_15 : kL RX5 15 RX5 TX5 5 tyX5 2 := ⟨by decide, inK5, tyX5_ok, nmX5, rfl, Or.inl (kWs_of 212 (by decide +kernel) rfl)⟩
theorem g_X5_19 : kL RX5 19 RX5 TX5 5 tyX5 3 := ⟨by decide, inK5, tyX5_ok, nmX5, rfl, Or.inl (kWs_of 214 (by decide +kernel) rfl)⟩
theorem g_X5_22 : kL RX5 22 RX5 TX5 5 tyX5 1 := ⟨by decide, inK5, tyX5_ok, nmX5, rfl, Or.inl (kWs_of 210 (by decide +kernel) rfl)⟩
theorem v_X5_26 : kV RX5 26 RX5 yX5_endOfNumber cX5_endOfNumber 5 (some .int) 2 := ⟨kWs_of 478 (by decide +kernel) rfl, mw_X5_endOfNumber.2.1, mw_X5_endOfNumber.2.2.1, mw_X5_endOfNumber.2.2.2, mw_X5_endOfNumber.1, rfl, by decide, by decide, by decide +kernel⟩
theorem v_X5_30 : kV RX5 30 RX5 yX5_isSign cX5_isSign 3 (some .boolean) 2 := ⟨kWs_of 482 (by decide +kernel) rfl, mw_X5_isSign.2.1, mw_X5_isSign.2.2.1, mw_X5_isSign.2.2.2, mw_X5_isSign.1, rfl, by decide, by decide, by decide +kernel⟩
theorem v_X5_34 : kV RX5 34 RX5 yX5_number cX5_number 5 (some .int) 2 := ⟨kWs_of 490 (by decide +kernel) rfl, mw_X5_number.2.1, mw_X5_number.2.2.1, mw_X5_number.2.2.2, mw_X5_number.1, rfl, by decide, by decide, by decide +kernel⟩
theorem g_X5_37 : kL RX5 37 RX5 TX5 5 tyX5 4 := ⟨by decide, inK5, tyX5_ok, nmX5, rfl, Or.inl (kWs_of 216 (by decide +kernel) rfl)⟩
theorem v_X5_45 : kV RX5 45 RX5 yX5_isDigit cX5_isDigit 2 (some .boolean) 1 := ⟨kWs_of 486 (by decide +kernel) rfl, mw_X5_isDigit.2.1, mw_X5_isDigit.2.2.1, mw_X5_isDigit.2.2.2, mw_X5_isDigit.1, rfl, by decide, by decide, by decide +kernel⟩
theorem v_L_13 : kV RL 13 RX6 yX6_open cX6_open 2 (some .int) 1 := ⟨kWs_of 249 (by decide +kernel) rfl, mw_X6_open.2.1, mw_X6_open.2.2.1, mw_X6_open.2.2.2, mw_X6_open.1, rfl, by decide, by decide, by decide +kernel⟩
theorem v_L_17 : kV RL 17 RX7 yX7_open cX7_open 4 (some .int) 1 := ⟨kWs_of 640 (by decide +kernel) rfl, mw_X7_open.2.1, mw_X7_open.2.2.1, mw_X7_open.2.2.2, mw_X7_open.1, rfl, by decide, by decide, by decide +kernel⟩
theorem v_L_18 : kV RL 18 RX6 yX6_pay cX6_pay 4 (some .int) 2 := ⟨kWs_of 293 (by decide +kernel) rfl, mw_X6_pay.2.1, mw_X6_pay.2.2.1, mw_X6_pay.2.2.2, mw_X6_pay.1, rfl, by decide, by decide, by decide +kernel⟩
theorem v_L_22 : kV RL 22 RX7 yX7_pay cX7_pay 4 (some .int) 2 := ⟨kWs_of 659 (by decide +kernel) rfl, mw_X7_pay.2.1, mw_X7_pay.2.2.1, mw_X7_pay.2.2.2, mw_X7_pay.1, rfl, by decide, by decide, by decide +kernel⟩
theorem v_L_23 : kV RL 23 RX6 yX6_widow cX6_widow 5 (some .int) 2 := ⟨kWs_of 305 (by decide +kernel) rfl, mw_X6_widow.2.1, mw_X6_widow.2.2.1, mw_X6_widow.2.2.2, mw_X6_widow.1, rfl, by decide, by decide, by decide +kernel⟩
theorem v_L_26 : kV RL 26 RX7 yX7_widow cX7_widow 4 (some .int) 2 := ⟨kWs_of 671 (by decide +kernel) rfl, mw_X7_widow.2.1, mw_X7_widow.2.2.1, mw_X7_widow.2.2.2, mw_X7_widow.1, rfl, by decide, by decide, by decide +kernel⟩
theorem v_L_27 : kV RL 27 RX6 yX6_close cX6_close 3 (some .int) 1 := ⟨kWs_of 329 (by decide +kernel) rfl, mw_X6_close.2.1, mw_X6_close.2.2.1, mw_X6_close.2.2.2, mw_X6_close.1, rfl, by decide, by decide, by decide +kernel⟩
theorem v_L_30 : kV RL 30 RX7 yX7_close cX7_close 2 (some .int) 1 := ⟨kWs_of 711 (by decide +kernel) rfl, mw_X7_close.2.1, mw_X7_close.2.2.1, mw_X7_close.2.2.2, mw_X7_close.1, rfl, by decide, by decide, by decide +kernel⟩
theorem v_L_31 : kV RL 31 RX6 yX6_setRent cX6_setRent 3 (some .int) 1 := ⟨kWs_of 346 (by decide +kernel) rfl, mw_X6_setRent.2.1, mw_X6_setRent.2.2.1, mw_X6_setRent.2.2.2, mw_X6_setRent.1, rfl, by decide, by decide, by decide +kernel⟩
theorem v_L_34 : kV RL 34 RX7 yX7_setRent cX7_setRent 3 (some .int) 1 := ⟨kWs_of 719 (by decide +kernel) rfl, mw_X7_setRent.2.1, mw_X7_setRent.2.2.1, mw_X7_setRent.2.2.2, mw_X7_setRent.1, rfl, by decide, by decide, by decide +kernel⟩
theorem v_L_35 : kV RL 35 RX6 yX6_forbidSkew cX6_forbidSkew 2 (some .int) 1 := ⟨kWs_of 350 (by decide +kernel) rfl, mw_X6_forbidSkew.2.1, mw_X6_forbidSkew.2.2.1, mw_X6_forbidSkew.2.2.2, mw_X6_forbidSkew.1, rfl, by decide, by decide, by decide +kernel⟩
theorem v_L_39 : kV RL 39 RX7 yX7_forbidSkew cX7_forbidSkew 3 (some .int) 1 := ⟨kWs_of 723 (by decide +kernel) rfl, mw_X7_forbidSkew.2.1, mw_X7_forbidSkew.2.2.1, mw_X7_forbidSkew.2.2.2, mw_X7_forbidSkew.1, rfl, by decide, by decide, by decide +kernel⟩
theorem v_L_40 : kV RL 40 RX6 yX6_tick cX6_tick 3 (some .int) 1 := ⟨kWs_of 358 (by decide +kernel) rfl, mw_X6_tick.2.1, mw_X6_tick.2.2.1, mw_X6_tick.2.2.2, mw_X6_tick.1, rfl, by decide, by decide, by decide +kernel⟩
theorem v_L_43 : kV RL 43 RX7 yX7_tick cX7_tick 4 (some .int) 1 := ⟨kWs_of 742 (by decide +kernel) rfl, mw_X7_tick.2.1, mw_X7_tick.2.2.1, mw_X7_tick.2.2.2, mw_X7_tick.1, rfl, by decide, by decide, by decide +kernel⟩
theorem v_L_44 : kV RL 44 RX6 yX6_read cX6_read 4 (some .int) 2 := ⟨kWs_of 385 (by decide +kernel) rfl, mw_X6_read.2.1, mw_X6_read.2.2.1, mw_X6_read.2.2.2, mw_X6_read.1, rfl, by decide, by decide, by decide +kernel⟩
theorem v_L_47 : kV RL 47 RX7 yX7_read cX7_read 3 (some .int) 2 := ⟨kWs_of 754 (by decide +kernel) rfl, mw_X7_read.2.1, mw_X7_read.2.2.1, mw_X7_read.2.2.2, mw_X7_read.1, rfl, by decide, by decide, by decide +kernel⟩
theorem v_L_48 : kV RL 48 RX6 yX6_write cX6_write 5 (some .int) 3 := ⟨kWs_of 401 (by decide +kernel) rfl, mw_X6_write.2.1, mw_X6_write.2.2.1, mw_X6_write.2.2.2, mw_X6_write.1, rfl, by decide, by decide, by decide +kernel⟩
theorem v_L_52 : kV RL 52 RX7 yX7_write cX7_write 4 (some .int) 3 := ⟨kWs_of 764 (by decide +kernel) rfl, mw_X7_write.2.1, mw_X7_write.2.2.1, mw_X7_write.2.2.2, mw_X7_write.1, rfl, by decide, by decide, by decide +kernel⟩
theorem v_L_53 : kV RL 53 RX6 yX6_commit cX6_commit 3 (some .int) 1 := ⟨kWs_of 419 (by decide +kernel) rfl, mw_X6_commit.2.1, mw_X6_commit.2.2.1, mw_X6_commit.2.2.2, mw_X6_commit.1, rfl, by decide, by decide, by decide +kernel⟩
theorem v_L_56 : kV RL 56 RX7 yX7_commit cX7_commit 2 (some .int) 1 := ⟨kWs_of 775 (by decide +kernel) rfl, mw_X7_commit.2.1, mw_X7_commit.2.2.1, mw_X7_commit.2.2.2, mw_X7_commit.1, rfl, by decide, by decide, by decide +kernel⟩
theorem v_L_57 : kV RL 57 RX6 yX6_type cX6_type 2 (some .int) 1 := ⟨kWs_of 458 (by decide +kernel) rfl, mw_X6_type.2.1, mw_X6_type.2.2.1, mw_X6_type.2.2.2, mw_X6_type.1, rfl, by decide, by decide, by decide +kernel⟩
theorem v_L_61 : kV RL 61 RX7 yX7_type cX7_type 2 (some .int) 1 := ⟨kWs_of 799 (by decide +kernel) rfl, mw_X7_type.2.1, mw_X7_type.2.2.1, mw_X7_type.2.2.2, mw_X7_type.1, rfl, by decide, by decide, by decide +kernel⟩
theorem v_L_62 : kV RL 62 RX6 yX6_clearText cX6_clearText 2 (some .int) 0 := ⟨kWs_of 466 (by decide +kernel) rfl, mw_X6_clearText.2.1, mw_X6_clearText.2.2.1, mw_X6_clearText.2.2.2, mw_X6_clearText.1, rfl, by decide, by decide, by decide +kernel⟩
theorem v_L_66 : kV RL 66 RX7 yX7_clearText cX7_clearText 2 (some .int) 0 := ⟨kWs_of 803 (by decide +kernel) rfl, mw_X7_clearText.2.1, mw_X7_clearText.2.2.1, mw_X7_clearText.2.2.2, mw_X7_clearText.1, rfl, by decide, by decide, by decide +kernel⟩
theorem v_L_67 : kV RL 67 RX6 yX6_readWrites cX6_readWrites 5 (some .int) 1 := ⟨kWs_of 470 (by decide +kernel) rfl, mw_X6_readWrites.2.1, mw_X6_readWrites.2.2.1, mw_X6_readWrites.2.2.2, mw_X6_readWrites.1, rfl, by decide, by decide, by decide +kernel⟩
theorem v_L_70 : kV RL 70 RX7 yX7_readWrites cX7_readWrites 4 (some .int) 1 := ⟨kWs_of 807 (by decide +kernel) rfl, mw_X7_readWrites.2.1, mw_X7_readWrites.2.2.1, mw_X7_readWrites.2.2.2, mw_X7_readWrites.1, rfl, by decide, by decide, by decide +kernel⟩
theorem v_L_71 : kV RL 71 RX6 yX6_undo cX6_undo 1 (some .int) 0 := ⟨kWs_of 501 (by decide +kernel) rfl, mw_X6_undo.2.1, mw_X6_undo.2.2.1, mw_X6_undo.2.2.2, mw_X6_undo.1, rfl, by decide, by decide, by decide +kernel⟩
theorem v_L_74 : kV RL 74 RX7 yX7_undo cX7_undo 1 (some .int) 0 := ⟨kWs_of 616 (by decide +kernel) rfl, mw_X7_undo.2.1, mw_X7_undo.2.2.1, mw_X7_undo.2.2.2, mw_X7_undo.1, rfl, by decide, by decide, by decide +kernel⟩
theorem v_L_75 : kV RL 75 RX6 yX6_keep cX6_keep 1 (some .int) 0 := ⟨kWs_of 509 (by decide +kernel) rfl, mw_X6_keep.2.1, mw_X6_keep.2.2.1, mw_X6_keep.2.2.2, mw_X6_keep.1, rfl, by decide, by decide, by decide +kernel⟩
theorem v_L_78 : kV RL 78 RX7 yX7_keep cX7_keep 1 (some .int) 0 := ⟨kWs_of 624 (by decide +kernel) rfl, mw_X7_keep.2.1, mw_X7_keep.2.2.1, mw_X7_keep.2.2.2, mw_X7_keep.1, rfl, by decide, by decide, by decide +kernel⟩
theorem v_L_79 : kV RL 79 RX6 yX6_restore cX6_restore 1 (some .int) 0 := ⟨kWs_of 514 (by decide +kernel) rfl, mw_X6_restore.2.1, mw_X6_restore.2.2.1, mw_X6_restore.2.2.2, mw_X6_restore.1, rfl, by decide, by decide, by decide +kernel⟩
theorem v_L_82 : kV RL 82 RX7 yX7_restore cX7_restore 1 (some .int) 0 := ⟨kWs_of 632 (by decide +kernel) rfl, mw_X7_restore.2.1, mw_X7_restore.2.2.1, mw_X7_restore.2.2.2, mw_X7_restore.1, rfl, by decide, by decide, by decide +kernel⟩
theorem v_L_83 : kV RL 83 RX6 yX6_cell cX6_cell 4 (some .int) 2 := ⟨kWs_of 518 (by decide +kernel) rfl, mw_X6_cell.2.1, mw_X6_cell.2.2.1, mw_X6_cell.2.2.2, mw_X6_cell.1, rfl, by decide, by decide, by decide +kernel⟩
theorem v_L_86 : kV RL 86 RX7 yX7_cell cX7_cell 3 (some .int) 2 := ⟨kWs_of 831 (by decide +kernel) rfl, mw_X7_cell.2.1, mw_X7_cell.2.2.1, mw_X7_cell.2.2.2, mw_X7_cell.1, rfl, by decide, by decide, by decide +kernel⟩
theorem v_L_87 : kV RL 87 RX6 yX6_version cX6_version 5 (some .int) 3 := ⟨kWs_of 530 (by decide +kernel) rfl, mw_X6_version.2.1, mw_X6_version.2.2.1, mw_X6_version.2.2.2, mw_X6_version.1, rfl, by decide, by decide, by decide +kernel⟩
theorem v_L_90 : kV RL 90 RX7 yX7_version cX7_version 6 (some .int) 3 := ⟨kWs_of 843 (by decide +kernel) rfl, mw_X7_version.2.1, mw_X7_version.2.2.1, mw_X7_version.2.2.2, mw_X7_version.1, rfl, by decide, by decide, by decide +kernel⟩
theorem v_L_91 : kV RL 91 RX6 yX6_reader cX6_reader 4 (some .int) 2 := ⟨kWs_of 536 (by decide +kernel) rfl, mw_X6_reader.2.1, mw_X6_reader.2.2.1, mw_X6_reader.2.2.2, mw_X6_reader.1, rfl, by decide, by decide, by decide +kernel⟩
theorem v_L_94 : kV RL 94 RX7 yX7_reader cX7_reader 3 (some .int) 2 := ⟨kWs_of 847 (by decide +kernel) rfl, mw_X7_reader.2.1, mw_X7_reader.2.2.1, mw_X7_reader.2.2.2, mw_X7_reader.1, rfl, by decide, by decide, by decide +kernel⟩
theorem v_L_95 : kV RL 95 RX6 yX6_lasts cX6_lasts 2 (some .int) 1 := ⟨kWs_of 549 (by decide +kernel) rfl, mw_X6_lasts.2.1, mw_X6_lasts.2.2.1, mw_X6_lasts.2.2.2, mw_X6_lasts.1, rfl, by decide, by decide, by decide +kernel⟩
theorem v_L_98 : kV RL 98 RX7 yX7_lasts cX7_lasts 3 (some .int) 1 := ⟨kWs_of 750 (by decide +kernel) rfl, mw_X7_lasts.2.1, mw_X7_lasts.2.2.1, mw_X7_lasts.2.2.2, mw_X7_lasts.1, rfl, by decide, by decide, by decide +kernel⟩
theorem v_L_99 : kV RL 99 RX6 yX6_committed cX6_committed 4 (some .int) 2 := ⟨kWs_of 553 (by decide +kernel) rfl, mw_X6_committed.2.1, mw_X6_committed.2.2.1, mw_X6_committed.2.2.2, mw_X6_committed.1, rfl, by decide, by decide, by decide +kernel⟩
theorem v_L_102 : kV RL 102 RX7 yX7_committed cX7_committed 3 (some .int) 2 := ⟨kWs_of 855 (by decide +kernel) rfl, mw_X7_committed.2.1, mw_X7_committed.2.2.1, mw_X7_committed.2.2.2, mw_X7_committed.1, rfl, by decide, by decide, by decide +kernel⟩
theorem v_L_103 : kV RL 103 RX6 yX6_count cX6_count 2 (some .int) 1 := ⟨kWs_of 557 (by decide +kernel) rfl, mw_X6_count.2.1, mw_X6_count.2.2.1, mw_X6_count.2.2.2, mw_X6_count.1, rfl, by decide, by decide, by decide +kernel⟩
theorem v_L_106 : kV RL 106 RX7 yX7_count cX7_count 2 (some .int) 1 := ⟨kWs_of 859 (by decide +kernel) rfl, mw_X7_count.2.1, mw_X7_count.2.2.1, mw_X7_count.2.2.2, mw_X7_count.1, rfl, by decide, by decide, by decide +kernel⟩
