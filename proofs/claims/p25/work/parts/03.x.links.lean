theorem g_X6_12 : kL RX6 12 RX6 TX6 6 tyX6 0 := ⟨by decide, inK6, tyX6_ok, nmX6, rfl, Or.inl (kWs_of 223 (by decide +kernel) rfl)⟩
theorem g_X6_16 : kL RX6 16 RX6 TX6 6 tyX6 1 := ⟨by decide, inK6, tyX6_ok, nmX6, rfl, Or.inl (kWs_of 224 (by decide +kernel) rfl)⟩
theorem g_X6_19 : kL RX6 19 RX6 TX6 6 tyX6 2 := ⟨by decide, inK6, tyX6_ok, nmX6, rfl, Or.inl (kWs_of 225 (by decide +kernel) rfl)⟩
theorem g_X6_25 : kL RX6 25 RX6 TX6 6 tyX6 3 := ⟨by decide, inK6, tyX6_ok, nmX6, rfl, Or.inl (kWs_of 226 (by decide +kernel) rfl)⟩
theorem g_X6_32 : kL RX6 32 RX6 TX6 6 tyX6 4 := ⟨by decide, inK6, tyX6_ok, nmX6, rfl, Or.inl (kWs_of 227 (by decide +kernel) rfl)⟩
theorem g_X6_36 : kL RX6 36 RX4 TX4 11 tyX4 6 := ⟨by decide, inK4, tyX4_ok, nmX4, rfl, Or.inr ⟨"RentedMoments", List.mem_of_getElem? (i := 46) (by decide +kernel)⟩⟩
theorem v_X6_40 : kV RX6 40 RX4 yX4_readersIn cX4_readersIn 4 (some .int) 1 := ⟨kWs_of 306 (by decide +kernel) rfl, mw_X4_readersIn.2.1, mw_X4_readersIn.2.2.1, mw_X4_readersIn.2.2.2, mw_X4_readersIn.1, rfl, by decide, by decide, by decide +kernel⟩
theorem v_X6_44 : kV RX6 44 RX2 yX2_record cX2_record 2 none 1 := ⟨kWs_of 376 (by decide +kernel) rfl, mw_X2_record.2.1, mw_X2_record.2.2.1, mw_X2_record.2.2.2, mw_X2_record.1, rfl, by decide, by decide, by decide +kernel⟩
theorem v_X6_48 : kV RX6 48 RX4 yX4_addReader cX4_addReader 3 (some .int) 1 := ⟨kWs_of 404 (by decide +kernel) rfl, mw_X4_addReader.2.1, mw_X4_addReader.2.2.1, mw_X4_addReader.2.2.2, mw_X4_addReader.1, rfl, by decide, by decide, by decide +kernel⟩
theorem v_X6_51 : kV RX6 51 RX4 yX4_hasReader cX4_hasReader 2 (some .boolean) 1 := ⟨kWs_of 245 (by decide +kernel) rfl, mw_X4_hasReader.2.1, mw_X4_hasReader.2.2.1, mw_X4_hasReader.2.2.2, mw_X4_hasReader.1, rfl, by decide, by decide, by decide +kernel⟩
theorem g_X6_55 : kL RX6 55 RX4 TX4 11 tyX4 1 := ⟨by decide, inK4, tyX4_ok, nmX4, rfl, Or.inr ⟨"RentedMoments", List.mem_of_getElem? (i := 41) (by decide +kernel)⟩⟩
theorem v_X6_59 : kV RX6 59 RX3 yX3_isOpen cX3_isOpen 1 (some .boolean) 0 := ⟨kWs_of 269 (by decide +kernel) rfl, mw_X3_isOpen.2.1, mw_X3_isOpen.2.2.1, mw_X3_isOpen.2.2.2, mw_X3_isOpen.1, rfl, by decide, by decide, by decide +kernel⟩
theorem g_X6_65 : kL RX6 65 RX3 TX3 9 tyX3 3 := ⟨by decide, inK3, tyX3_ok, nmX3, rfl, Or.inr ⟨"RentedMoments", List.mem_of_getElem? (i := 14) (by decide +kernel)⟩⟩
theorem g_X6_68 : kL RX6 68 RX3 TX3 9 tyX3 8 := ⟨by decide, inK3, tyX3_ok, nmX3, rfl, Or.inr ⟨"RentedMoments", List.mem_of_getElem? (i := 26) (by decide +kernel)⟩⟩
theorem v_X6_72 : kV RX6 72 RX4 yX4_dueOf cX4_dueOf 4 (some .int) 1 := ⟨kWs_of 249 (by decide +kernel) rfl, mw_X4_dueOf.2.1, mw_X4_dueOf.2.2.1, mw_X4_dueOf.2.2.2, mw_X4_dueOf.1, rfl, by decide, by decide, by decide +kernel⟩
theorem g_X6_76 : kL RX6 76 RX3 TX3 9 tyX3 6 := ⟨by decide, inK3, tyX3_ok, nmX3, rfl, Or.inr ⟨"RentedMoments", List.mem_of_getElem? (i := 22) (by decide +kernel)⟩⟩
theorem g_X6_79 : kL RX6 79 RX3 TX3 9 tyX3 1 := ⟨by decide, inK3, tyX3_ok, nmX3, rfl, Or.inr ⟨"RentedMoments", List.mem_of_getElem? (i := 10) (by decide +kernel)⟩⟩
theorem v_X6_82 : kV RX6 82 RX4 yX4_removeUnseen cX4_removeUnseen 3 (some .int) 0 := ⟨kWs_of 424 (by decide +kernel) rfl, mw_X4_removeUnseen.2.1, mw_X4_removeUnseen.2.2.1, mw_X4_removeUnseen.2.2.2, mw_X4_removeUnseen.1, rfl, by decide, by decide, by decide +kernel⟩
theorem g_X6_86 : kL RX6 86 RX4 TX4 11 tyX4 5 := ⟨by decide, inK4, tyX4_ok, nmX4, rfl, Or.inr ⟨"RentedMoments", List.mem_of_getElem? (i := 45) (by decide +kernel)⟩⟩
theorem g_X6_89 : kL RX6 89 RX4 TX4 11 tyX4 9 := ⟨by decide, inK4, tyX4_ok, nmX4, rfl, Or.inr ⟨"RentedMoments", List.mem_of_getElem? (i := 49) (by decide +kernel)⟩⟩
theorem v_X6_92 : kV RX6 92 RX4 yX4_pairsInSkew cX4_pairsInSkew 3 (some .int) 0 := ⟨kWs_of 318 (by decide +kernel) rfl, mw_X4_pairsInSkew.2.1, mw_X4_pairsInSkew.2.2.1, mw_X4_pairsInSkew.2.2.2, mw_X4_pairsInSkew.1, rfl, by decide, by decide, by decide +kernel⟩
theorem v_X6_95 : kV RX6 95 RX4 yX4_letTicksPass cX4_letTicksPass 7 none 2 := ⟨kWs_of 448 (by decide +kernel) rfl, mw_X4_letTicksPass.2.1, mw_X4_letTicksPass.2.2.1, mw_X4_letTicksPass.2.2.2, mw_X4_letTicksPass.1, rfl, by decide, by decide, by decide +kernel⟩
theorem v_X6_99 : kVs RX6 99 yX6_isCell cX6_isCell 1 (some .boolean) 1 := ⟨kWs_of 343 (by decide +kernel) rfl, mw_X6_isCell.2.1, mw_X6_isCell.2.2, mw_X6_isCell.1, rfl, by decide, by decide, by decide +kernel⟩
theorem v_X6_102 : kV RX6 102 RX3 yX3_hasWrite cX3_hasWrite 2 (some .boolean) 1 := ⟨kWs_of 471 (by decide +kernel) rfl, mw_X3_hasWrite.2.1, mw_X3_hasWrite.2.2.1, mw_X3_hasWrite.2.2.2, mw_X3_hasWrite.1, rfl, by decide, by decide, by decide +kernel⟩
theorem g_X6_105 : kL RX6 105 RX3 TX3 9 tyX3 0 := ⟨by decide, inK3, tyX3_ok, nmX3, rfl, Or.inr ⟨"RentedMoments", List.mem_of_getElem? (i := 7) (by decide +kernel)⟩⟩
theorem g_X6_109 : kL RX6 109 RX3 TX3 9 tyX3 4 := ⟨by decide, inK3, tyX3_ok, nmX3, rfl, Or.inr ⟨"RentedMoments", List.mem_of_getElem? (i := 17) (by decide +kernel)⟩⟩
theorem g_X6_112 : kL RX6 112 RX4 TX4 11 tyX4 0 := ⟨by decide, inK4, tyX4_ok, nmX4, rfl, Or.inr ⟨"RentedMoments", List.mem_of_getElem? (i := 40) (by decide +kernel)⟩⟩
theorem g_X6_116 : kL RX6 116 RX3 TX3 9 tyX3 2 := ⟨by decide, inK3, tyX3_ok, nmX3, rfl, Or.inr ⟨"RentedMoments", List.mem_of_getElem? (i := 13) (by decide +kernel)⟩⟩
theorem v_X6_119 : kV RX6 119 RX0 yX0_valueSeenAt cX0_valueSeenAt 3 (some .int) 1 := ⟨kWs_of 472 (by decide +kernel) rfl, mw_X0_valueSeenAt.2.1, mw_X0_valueSeenAt.2.2.1, mw_X0_valueSeenAt.2.2.2, mw_X0_valueSeenAt.1, rfl, by decide, by decide, by decide +kernel⟩
theorem v_X6_124 : kV RX6 124 RX3 yX3_putWrite cX3_putWrite 3 none 2 := ⟨kWs_of 477 (by decide +kernel) rfl, mw_X3_putWrite.2.1, mw_X3_putWrite.2.2.1, mw_X3_putWrite.2.2.2, mw_X3_putWrite.1, rfl, by decide, by decide, by decide +kernel⟩
theorem v_X6_127 : kV RX6 127 RX3 yX3_numberOfWrites cX3_numberOfWrites 1 (some .int) 0 := ⟨kWs_of 481 (by decide +kernel) rfl, mw_X3_numberOfWrites.2.1, mw_X3_numberOfWrites.2.2.1, mw_X3_numberOfWrites.2.2.2, mw_X3_numberOfWrites.1, rfl, by decide, by decide, by decide +kernel⟩
theorem v_X6_130 : kV RX6 130 RX4 yX4_hasConflict cX4_hasConflict 3 (some .boolean) 1 := ⟨kWs_of 286 (by decide +kernel) rfl, mw_X4_hasConflict.2.1, mw_X4_hasConflict.2.2.1, mw_X4_hasConflict.2.2.2, mw_X4_hasConflict.1, rfl, by decide, by decide, by decide +kernel⟩
theorem v_X6_134 : kV RX6 134 RX4 yX4_skewsOf cX4_skewsOf 4 (some .int) 1 := ⟨kWs_of 294 (by decide +kernel) rfl, mw_X4_skewsOf.2.1, mw_X4_skewsOf.2.2.1, mw_X4_skewsOf.2.2.2, mw_X4_skewsOf.1, rfl, by decide, by decide, by decide +kernel⟩
theorem v_X6_137 : kV RX6 137 RX4 yX4_oldVersionsWithout cX4_oldVersionsWithout 6 (some .int) 1 := ⟨kWs_of 495 (by decide +kernel) rfl, mw_X4_oldVersionsWithout.2.1, mw_X4_oldVersionsWithout.2.2.1, mw_X4_oldVersionsWithout.2.2.2, mw_X4_oldVersionsWithout.1, rfl, by decide, by decide, by decide +kernel⟩
theorem v_X6_140 : kV RX6 140 RX4 yX4_land cX4_land 3 none 1 := ⟨kWs_of 500 (by decide +kernel) rfl, mw_X4_land.2.1, mw_X4_land.2.2.1, mw_X4_land.2.2.2, mw_X4_land.1, rfl, by decide, by decide, by decide +kernel⟩
theorem g_X6_144 : kL RX6 144 RX4 TX4 11 tyX4 3 := ⟨by decide, inK4, tyX4_ok, nmX4, rfl, Or.inr ⟨"RentedMoments", List.mem_of_getElem? (i := 43) (by decide +kernel)⟩⟩
theorem g_X6_165 : kL RX6 165 RX2 TX2 2 tyX2 1 := ⟨by decide, inK2, tyX2_ok, nmX2, rfl, Or.inr ⟨"RentedMoments", List.mem_of_getElem? (i := 50) (by decide +kernel)⟩⟩
theorem v_X6_166 : kV RX6 166 RX2 yX2_bringBack cX2_bringBack 2 none 1 := ⟨kWs_of 539 (by decide +kernel) rfl, mw_X2_bringBack.2.1, mw_X2_bringBack.2.2.1, mw_X2_bringBack.2.2.2, mw_X2_bringBack.1, rfl, by decide, by decide, by decide +kernel⟩
theorem g_X6_175 : kL RX6 175 RX0 TX0 3 tyX0 0 := ⟨by decide, inK0, tyX0_ok, nmX0, rfl, Or.inr ⟨"RentedMoments", List.mem_of_getElem? (i := 1) (by decide +kernel)⟩⟩
theorem g_X6_176 : kL RX6 176 RX0 TX0 3 tyX0 1 := ⟨by decide, inK0, tyX0_ok, nmX0, rfl, Or.inr ⟨"RentedMoments", List.mem_of_getElem? (i := 2) (by decide +kernel)⟩⟩
theorem g_X6_179 : kL RX6 179 RX0 TX0 3 tyX0 2 := ⟨by decide, inK0, tyX0_ok, nmX0, rfl, Or.inr ⟨"RentedMoments", List.mem_of_getElem? (i := 5) (by decide +kernel)⟩⟩
theorem v_X6_182 : kV RX6 182 RX4 yX4_seersOf cX4_seersOf 6 (some .int) 2 := ⟨kWs_of 346 (by decide +kernel) rfl, mw_X4_seersOf.2.1, mw_X4_seersOf.2.2.1, mw_X4_seersOf.2.2.2, mw_X4_seersOf.1, rfl, by decide, by decide, by decide +kernel⟩
theorem v_X6_186 : kV RX6 186 RX4 yX4_writersOf cX4_writersOf 4 (some .int) 1 := ⟨kWs_of 351 (by decide +kernel) rfl, mw_X4_writersOf.2.1, mw_X4_writersOf.2.2.1, mw_X4_writersOf.2.2.2, mw_X4_writersOf.1, rfl, by decide, by decide, by decide +kernel⟩
theorem v_X6_189 : kV RX6 189 RX4 yX4_payersOf cX4_payersOf 6 (some .int) 2 := ⟨kWs_of 359 (by decide +kernel) rfl, mw_X4_payersOf.2.1, mw_X4_payersOf.2.2.1, mw_X4_payersOf.2.2.2, mw_X4_payersOf.1, rfl, by decide, by decide, by decide +kernel⟩
theorem v_X6_192 : kV RX6 192 RX4 yX4_shareOf cX4_shareOf 4 (some .int) 2 := ⟨kWs_of 360 (by decide +kernel) rfl, mw_X4_shareOf.2.1, mw_X4_shareOf.2.2.1, mw_X4_shareOf.2.2.2, mw_X4_shareOf.1, rfl, by decide, by decide, by decide +kernel⟩
theorem g_X6_195 : kL RX6 195 RX3 TX3 9 tyX3 5 := ⟨by decide, inK3, tyX3_ok, nmX3, rfl, Or.inr ⟨"RentedMoments", List.mem_of_getElem? (i := 20) (by decide +kernel)⟩⟩
theorem g_X6_198 : kL RX6 198 RX3 TX3 9 tyX3 7 := ⟨by decide, inK3, tyX3_ok, nmX3, rfl, Or.inr ⟨"RentedMoments", List.mem_of_getElem? (i := 25) (by decide +kernel)⟩⟩
theorem v_X6_201 : kV RX6 201 RX4 yX4_oldVersionsSeenBy cX4_oldVersionsSeenBy 4 (some .int) 1 := ⟨kWs_of 273 (by decide +kernel) rfl, mw_X4_oldVersionsSeenBy.2.1, mw_X4_oldVersionsSeenBy.2.2.1, mw_X4_oldVersionsSeenBy.2.2.2, mw_X4_oldVersionsSeenBy.1, rfl, by decide, by decide, by decide +kernel⟩
theorem v_X6_204 : kV RX6 204 RX4 yX4_sumSeenBy cX4_sumSeenBy 4 (some .int) 1 := ⟨kWs_of 277 (by decide +kernel) rfl, mw_X4_sumSeenBy.2.1, mw_X4_sumSeenBy.2.2.1, mw_X4_sumSeenBy.2.2.2, mw_X4_sumSeenBy.1, rfl, by decide, by decide, by decide +kernel⟩
theorem g_X6_210 : kL RX6 210 RX4 TX4 11 tyX4 7 := ⟨by decide, inK4, tyX4_ok, nmX4, rfl, Or.inr ⟨"RentedMoments", List.mem_of_getElem? (i := 47) (by decide +kernel)⟩⟩
theorem g_X6_213 : kL RX6 213 RX4 TX4 11 tyX4 2 := ⟨by decide, inK4, tyX4_ok, nmX4, rfl, Or.inr ⟨"RentedMoments", List.mem_of_getElem? (i := 42) (by decide +kernel)⟩⟩
theorem g_X6_217 : kL RX6 217 RX1 TX1 6 tyX1 0 := ⟨by decide, inK1, tyX1_ok, nmX1, rfl, Or.inr ⟨"RentedMoments", List.mem_of_getElem? (i := 28) (by decide +kernel)⟩⟩
theorem g_X6_222 : kL RX6 222 RX1 TX1 6 tyX1 1 := ⟨by decide, inK1, tyX1_ok, nmX1, rfl, Or.inr ⟨"RentedMoments", List.mem_of_getElem? (i := 30) (by decide +kernel)⟩⟩
theorem g_X6_225 : kL RX6 225 RX1 TX1 6 tyX1 2 := ⟨by decide, inK1, tyX1_ok, nmX1, rfl, Or.inr ⟨"RentedMoments", List.mem_of_getElem? (i := 32) (by decide +kernel)⟩⟩
theorem g_X6_228 : kL RX6 228 RX1 TX1 6 tyX1 3 := ⟨by decide, inK1, tyX1_ok, nmX1, rfl, Or.inr ⟨"RentedMoments", List.mem_of_getElem? (i := 34) (by decide +kernel)⟩⟩
theorem g_X6_229 : kL RX6 229 RX1 TX1 6 tyX1 4 := ⟨by decide, inK1, tyX1_ok, nmX1, rfl, Or.inr ⟨"RentedMoments", List.mem_of_getElem? (i := 36) (by decide +kernel)⟩⟩
theorem g_X6_230 : kL RX6 230 RX1 TX1 6 tyX1 5 := ⟨by decide, inK1, tyX1_ok, nmX1, rfl, Or.inr ⟨"RentedMoments", List.mem_of_getElem? (i := 38) (by decide +kernel)⟩⟩
theorem g_X6_207 : kL RX6 207 RX4 TX4 11 tyX4 4 := ⟨by decide, inK4, tyX4_ok, nmX4, rfl, Or.inr ⟨"RentedMoments", List.mem_of_getElem? (i := 44) (by decide +kernel)⟩⟩
theorem v_X6_233 : kV RX6 233 RX4 yX4_oldVersions cX4_oldVersions 3 (some .int) 0 := ⟨kWs_of 310 (by decide +kernel) rfl, mw_X4_oldVersions.2.1, mw_X4_oldVersions.2.2.1, mw_X4_oldVersions.2.2.2, mw_X4_oldVersions.1, rfl, by decide, by decide, by decide +kernel⟩
theorem g_X6_236 : kL RX6 236 RX4 TX4 11 tyX4 8 := ⟨by decide, inK4, tyX4_ok, nmX4, rfl, Or.inr ⟨"RentedMoments", List.mem_of_getElem? (i := 48) (by decide +kernel)⟩⟩
theorem v_X6_239 : kV RX6 239 RX4 yX4_coinsPaid cX4_coinsPaid 3 (some .int) 0 := ⟨kWs_of 314 (by decide +kernel) rfl, mw_X4_coinsPaid.2.1, mw_X4_coinsPaid.2.2.1, mw_X4_coinsPaid.2.2.2, mw_X4_coinsPaid.1, rfl, by decide, by decide, by decide +kernel⟩
theorem v_X6_242 : kV RX6 242 RX4 yX4_openWidows cX4_openWidows 3 (some .int) 0 := ⟨kWs_of 322 (by decide +kernel) rfl, mw_X4_openWidows.2.1, mw_X4_openWidows.2.2.1, mw_X4_openWidows.2.2.2, mw_X4_openWidows.1, rfl, by decide, by decide, by decide +kernel⟩
theorem g_X6_145 : kL RX6 145 RX5 TX5 5 tyX5 1 := ⟨by decide, inK5, tyX5_ok, nmX5, rfl, Or.inr ⟨"RentedMoments", List.mem_of_getElem? (i := 52) (by decide +kernel)⟩⟩
theorem g_X0_9 : kL RX0 9 RX0 TX0 3 tyX0 0 := ⟨by decide, inK0, tyX0_ok, nmX0, rfl, Or.inl (kWs_of 35 (by decide +kernel) rfl)⟩
theorem g_X0_15 : kL RX0 15 RX0 TX0 3 tyX0 1 := ⟨by decide, inK0, tyX0_ok, nmX0, rfl, Or.inl (kWs_of 37 (by decide +kernel) rfl)⟩
theorem g_X0_18 : kL RX0 18 RX0 TX0 3 tyX0 2 := ⟨by decide, inK0, tyX0_ok, nmX0, rfl, Or.inl (kWs_of 40 (by decide +kernel) rfl)⟩
theorem v_X0_28 : kV RX0 28 RX0 yX0_placeSeenAt cX0_placeSeenAt 3 (some .int) 1 := ⟨kWs_of 285 (by decide +kernel) rfl, mw_X0_placeSeenAt.2.1, mw_X0_placeSeenAt.2.2.1, mw_X0_placeSeenAt.2.2.2, mw_X0_placeSeenAt.1, rfl, by decide, by decide, by decide +kernel⟩
theorem g_X1_7 : kL RX1 7 RX1 TX1 6 tyX1 0 := ⟨by decide, inK1, tyX1_ok, nmX1, rfl, Or.inl (kWs_of 109 (by decide +kernel) rfl)⟩
theorem g_X1_13 : kL RX1 13 RX1 TX1 6 tyX1 1 := ⟨by decide, inK1, tyX1_ok, nmX1, rfl, Or.inl (kWs_of 112 (by decide +kernel) rfl)⟩
theorem g_X1_16 : kL RX1 16 RX1 TX1 6 tyX1 2 := ⟨by decide, inK1, tyX1_ok, nmX1, rfl, Or.inl (kWs_of 115 (by decide +kernel) rfl)⟩
theorem g_X1_19 : kL RX1 19 RX1 TX1 6 tyX1 3 := ⟨by decide, inK1, tyX1_ok, nmX1, rfl, Or.inl (kWs_of 118 (by decide +kernel) rfl)⟩
theorem g_X1_22 : kL RX1 22 RX1 TX1 6 tyX1 4 := ⟨by decide, inK1, tyX1_ok, nmX1, rfl, Or.inl (kWs_of 121 (by decide +kernel) rfl)⟩
theorem g_X1_25 : kL RX1 25 RX1 TX1 6 tyX1 5 := ⟨by decide, inK1, tyX1_ok, nmX1, rfl, Or.inl (kWs_of 124 (by decide +kernel) rfl)⟩
theorem g_X1_28 : kL RX1 28 RX3 TX3 9 tyX3 2 := ⟨by decide, inK3, tyX3_ok, nmX3, rfl, Or.inr ⟨"RentedMoments", List.mem_of_getElem? (i := 11) (by decide +kernel)⟩⟩
theorem g_X1_33 : kL RX1 33 RX3 TX3 9 tyX3 4 := ⟨by decide, inK3, tyX3_ok, nmX3, rfl, Or.inr ⟨"RentedMoments", List.mem_of_getElem? (i := 16) (by decide +kernel)⟩⟩
theorem g_X1_34 : kL RX1 34 RX3 TX3 9 tyX3 5 := ⟨by decide, inK3, tyX3_ok, nmX3, rfl, Or.inr ⟨"RentedMoments", List.mem_of_getElem? (i := 19) (by decide +kernel)⟩⟩
theorem g_X2_11 : kL RX2 11 RX2 TX2 2 tyX2 0 := ⟨by decide, inK2, tyX2_ok, nmX2, rfl, Or.inl (kWs_of 193 (by decide +kernel) rfl)⟩
theorem g_X2_18 : kL RX2 18 RX2 TX2 2 tyX2 1 := ⟨by decide, inK2, tyX2_ok, nmX2, rfl, Or.inl (kWs_of 194 (by decide +kernel) rfl)⟩
theorem v_X2_22 : kV RX2 22 RX2 yX2_dropOldest cX2_dropOldest 3 none 0 := ⟨kWs_of 380 (by decide +kernel) rfl, mw_X2_dropOldest.2.1, mw_X2_dropOldest.2.2.1, mw_X2_dropOldest.2.2.2, mw_X2_dropOldest.1, rfl, by decide, by decide, by decide +kernel⟩
theorem v_X2_25 : kV RX2 25 RX4 yX4_copyFrom cX4_copyFrom 3 none 1 := ⟨kWs_of 384 (by decide +kernel) rfl, mw_X4_copyFrom.2.1, mw_X4_copyFrom.2.2.1, mw_X4_copyFrom.2.2.2, mw_X4_copyFrom.1, rfl, by decide, by decide, by decide +kernel⟩
theorem g_X3_9 : kL RX3 9 RX3 TX3 9 tyX3 0 := ⟨by decide, inK3, tyX3_ok, nmX3, rfl, Or.inl (kWs_of 56 (by decide +kernel) rfl)⟩
theorem g_X3_15 : kL RX3 15 RX3 TX3 9 tyX3 1 := ⟨by decide, inK3, tyX3_ok, nmX3, rfl, Or.inl (kWs_of 59 (by decide +kernel) rfl)⟩
theorem g_X3_19 : kL RX3 19 RX3 TX3 9 tyX3 2 := ⟨by decide, inK3, tyX3_ok, nmX3, rfl, Or.inl (kWs_of 62 (by decide +kernel) rfl)⟩
theorem g_X3_22 : kL RX3 22 RX3 TX3 9 tyX3 3 := ⟨by decide, inK3, tyX3_ok, nmX3, rfl, Or.inl (kWs_of 66 (by decide +kernel) rfl)⟩
theorem g_X3_25 : kL RX3 25 RX3 TX3 9 tyX3 4 := ⟨by decide, inK3, tyX3_ok, nmX3, rfl, Or.inl (kWs_of 69 (by decide +kernel) rfl)⟩
theorem g_X3_28 : kL RX3 28 RX3 TX3 9 tyX3 5 := ⟨by decide, inK3, tyX3_ok, nmX3, rfl, Or.inl (kWs_of 73 (by decide +kernel) rfl)⟩
theorem g_X3_31 : kL RX3 31 RX3 TX3 9 tyX3 6 := ⟨by decide, inK3, tyX3_ok, nmX3, rfl, Or.inl (kWs_of 77 (by decide +kernel) rfl)⟩
theorem g_X3_34 : kL RX3 34 RX3 TX3 9 tyX3 7 := ⟨by decide, inK3, tyX3_ok, nmX3, rfl, Or.inl (kWs_of 80 (by decide +kernel) rfl)⟩
theorem g_X3_37 : kL RX3 37 RX3 TX3 9 tyX3 8 := ⟨by decide, inK3, tyX3_ok, nmX3, rfl, Or.inl (kWs_of 83 (by decide +kernel) rfl)⟩
theorem g_X4_11 : kL RX4 11 RX4 TX4 11 tyX4 0 := ⟨by decide, inK4, tyX4_ok, nmX4, rfl, Or.inl (kWs_of 140 (by decide +kernel) rfl)⟩
theorem g_X4_19 : kL RX4 19 RX4 TX4 11 tyX4 1 := ⟨by decide, inK4, tyX4_ok, nmX4, rfl, Or.inl (kWs_of 142 (by decide +kernel) rfl)⟩
theorem g_X4_25 : kL RX4 25 RX4 TX4 11 tyX4 2 := ⟨by decide, inK4, tyX4_ok, nmX4, rfl, Or.inl (kWs_of 144 (by decide +kernel) rfl)⟩
theorem g_X4_29 : kL RX4 29 RX4 TX4 11 tyX4 5 := ⟨by decide, inK4, tyX4_ok, nmX4, rfl, Or.inl (kWs_of 150 (by decide +kernel) rfl)⟩
theorem g_X4_33 : kL RX4 33 RX4 TX4 11 tyX4 10 := ⟨by decide, inK4, tyX4_ok, nmX4, rfl, Or.inl (kWs_of 160 (by decide +kernel) rfl)⟩
theorem v_X4_40 : kV RX4 40 RX0 yX0_copyFrom cX0_copyFrom 2 none 1 := ⟨kWs_of 388 (by decide +kernel) rfl, mw_X0_copyFrom.2.1, mw_X0_copyFrom.2.2.1, mw_X0_copyFrom.2.2.2, mw_X0_copyFrom.1, rfl, by decide, by decide, by decide +kernel⟩
theorem g_X4_44 : kL RX4 44 RX4 TX4 11 tyX4 6 := ⟨by decide, inK4, tyX4_ok, nmX4, rfl, Or.inl (kWs_of 153 (by decide +kernel) rfl)⟩
theorem v_X4_47 : kV RX4 47 RX3 yX3_copyFrom cX3_copyFrom 2 none 1 := ⟨kWs_of 395 (by decide +kernel) rfl, mw_X3_copyFrom.2.1, mw_X3_copyFrom.2.2.1, mw_X3_copyFrom.2.2.2, mw_X3_copyFrom.1, rfl, by decide, by decide, by decide +kernel⟩
theorem g_X4_50 : kL RX4 50 RX4 TX4 11 tyX4 7 := ⟨by decide, inK4, tyX4_ok, nmX4, rfl, Or.inl (kWs_of 154 (by decide +kernel) rfl)⟩
theorem v_X4_53 : kV RX4 53 RX1 yX1_copyFrom cX1_copyFrom 2 none 1 := ⟨kWs_of 400 (by decide +kernel) rfl, mw_X1_copyFrom.2.1, mw_X1_copyFrom.2.2.1, mw_X1_copyFrom.2.2.2, mw_X1_copyFrom.1, rfl, by decide, by decide, by decide +kernel⟩
theorem g_X4_56 : kL RX4 56 RX4 TX4 11 tyX4 3 := ⟨by decide, inK4, tyX4_ok, nmX4, rfl, Or.inl (kWs_of 146 (by decide +kernel) rfl)⟩
theorem g_X4_59 : kL RX4 59 RX4 TX4 11 tyX4 4 := ⟨by decide, inK4, tyX4_ok, nmX4, rfl, Or.inl (kWs_of 148 (by decide +kernel) rfl)⟩
theorem g_X4_62 : kL RX4 62 RX4 TX4 11 tyX4 8 := ⟨by decide, inK4, tyX4_ok, nmX4, rfl, Or.inl (kWs_of 156 (by decide +kernel) rfl)⟩
theorem g_X4_65 : kL RX4 65 RX4 TX4 11 tyX4 9 := ⟨by decide, inK4, tyX4_ok, nmX4, rfl, Or.inl (kWs_of 158 (by decide +kernel) rfl)⟩
theorem v_X4_69 : kV RX4 69 RX3 yX3_begin cX3_begin 3 none 2 := ⟨kWs_of 408 (by decide +kernel) rfl, mw_X3_begin.2.1, mw_X3_begin.2.2.1, mw_X3_begin.2.2.2, mw_X3_begin.1, rfl, by decide, by decide, by decide +kernel⟩
theorem g_X4_73 : kL RX4 73 RX3 TX3 9 tyX3 1 := ⟨by decide, inK3, tyX3_ok, nmX3, rfl, Or.inr ⟨"RentedMoments", List.mem_of_getElem? (i := 9) (by decide +kernel)⟩⟩
theorem v_X4_76 : kV RX4 76 RX3 yX3_isOpenWidow cX3_isOpenWidow 1 (some .boolean) 0 := ⟨kWs_of 326 (by decide +kernel) rfl, mw_X3_isOpenWidow.2.1, mw_X3_isOpenWidow.2.2.1, mw_X3_isOpenWidow.2.2.2, mw_X3_isOpenWidow.1, rfl, by decide, by decide, by decide +kernel⟩
theorem g_X4_80 : kL RX4 80 RX3 TX3 9 tyX3 7 := ⟨by decide, inK3, tyX3_ok, nmX3, rfl, Or.inr ⟨"RentedMoments", List.mem_of_getElem? (i := 24) (by decide +kernel)⟩⟩
theorem v_X4_83 : kV RX4 83 RX3 yX3_isOpen cX3_isOpen 1 (some .boolean) 0 := ⟨kWs_of 350 (by decide +kernel) rfl, mw_X3_isOpen.2.1, mw_X3_isOpen.2.2.1, mw_X3_isOpen.2.2.2, mw_X3_isOpen.1, rfl, by decide, by decide, by decide +kernel⟩
theorem v_X4_86 : kV RX4 86 RX3 yX3_hasWrite cX3_hasWrite 2 (some .boolean) 1 := ⟨kWs_of 290 (by decide +kernel) rfl, mw_X3_hasWrite.2.1, mw_X3_hasWrite.2.2.1, mw_X3_hasWrite.2.2.2, mw_X3_hasWrite.1, rfl, by decide, by decide, by decide +kernel⟩
theorem g_X4_90 : kL RX4 90 RX3 TX3 9 tyX3 2 := ⟨by decide, inK3, tyX3_ok, nmX3, rfl, Or.inr ⟨"RentedMoments", List.mem_of_getElem? (i := 12) (by decide +kernel)⟩⟩
theorem v_X4_91 : kV RX4 91 RX0 yX0_placeSeenAt cX0_placeSeenAt 3 (some .int) 1 := ⟨kWs_of 257 (by decide +kernel) rfl, mw_X0_placeSeenAt.2.1, mw_X0_placeSeenAt.2.2.1, mw_X0_placeSeenAt.2.2.2, mw_X0_placeSeenAt.1, rfl, by decide, by decide, by decide +kernel⟩
theorem v_X4_95 : kV RX4 95 RX3 yX3_paysRent cX3_paysRent 1 (some .boolean) 0 := ⟨kWs_of 253 (by decide +kernel) rfl, mw_X3_paysRent.2.1, mw_X3_paysRent.2.2.1, mw_X3_paysRent.2.2.2, mw_X3_paysRent.1, rfl, by decide, by decide, by decide +kernel⟩
theorem g_X4_98 : kL RX4 98 RX0 TX0 3 tyX0 2 := ⟨by decide, inK0, tyX0_ok, nmX0, rfl, Or.inr ⟨"RentedMoments", List.mem_of_getElem? (i := 4) (by decide +kernel)⟩⟩
theorem v_X4_101 : kV RX4 101 RX0 yX0_valueSeenAt cX0_valueSeenAt 3 (some .int) 1 := ⟨kWs_of 281 (by decide +kernel) rfl, mw_X0_valueSeenAt.2.1, mw_X0_valueSeenAt.2.2.1, mw_X0_valueSeenAt.2.2.2, mw_X0_valueSeenAt.1, rfl, by decide, by decide, by decide +kernel⟩
theorem v_X4_104 : kV RX4 104 RX4 yX4_placesSeen cX4_placesSeen 6 (some .int) 2 := ⟨kWs_of 428 (by decide +kernel) rfl, mw_X4_placesSeen.2.1, mw_X4_placesSeen.2.2.1, mw_X4_placesSeen.2.2.2, mw_X4_placesSeen.1, rfl, by decide, by decide, by decide +kernel⟩
theorem v_X4_108 : kV RX4 108 RX0 yX0_retainOld cX0_retainOld 4 (some .int) 1 := ⟨kWs_of 432 (by decide +kernel) rfl, mw_X0_retainOld.2.1, mw_X0_retainOld.2.2.1, mw_X0_retainOld.2.2.2, mw_X0_retainOld.1, rfl, by decide, by decide, by decide +kernel⟩
theorem v_X4_111 : kV RX4 111 RX4 yX4_payersOf cX4_payersOf 6 (some .int) 2 := ⟨kWs_of 265 (by decide +kernel) rfl, mw_X4_payersOf.2.1, mw_X4_payersOf.2.2.1, mw_X4_payersOf.2.2.2, mw_X4_payersOf.1, rfl, by decide, by decide, by decide +kernel⟩
theorem v_X4_114 : kV RX4 114 RX4 yX4_shareOf cX4_shareOf 4 (some .int) 2 := ⟨kWs_of 261 (by decide +kernel) rfl, mw_X4_shareOf.2.1, mw_X4_shareOf.2.2.1, mw_X4_shareOf.2.2.2, mw_X4_shareOf.1, rfl, by decide, by decide, by decide +kernel⟩
theorem v_X4_117 : kV RX4 117 RX4 yX4_dueOf cX4_dueOf 4 (some .int) 1 := ⟨kWs_of 456 (by decide +kernel) rfl, mw_X4_dueOf.2.1, mw_X4_dueOf.2.2.1, mw_X4_dueOf.2.2.2, mw_X4_dueOf.1, rfl, by decide, by decide, by decide +kernel⟩
theorem v_X4_121 : kV RX4 121 RX4 yX4_tellDues cX4_tellDues 2 none 0 := ⟨kWs_of 452 (by decide +kernel) rfl, mw_X4_tellDues.2.1, mw_X4_tellDues.2.2.1, mw_X4_tellDues.2.2.2, mw_X4_tellDues.1, rfl, by decide, by decide, by decide +kernel⟩
theorem v_X4_124 : kV RX4 124 RX4 yX4_takeDues cX4_takeDues 4 (some .boolean) 0 := ⟨kWs_of 457 (by decide +kernel) rfl, mw_X4_takeDues.2.1, mw_X4_takeDues.2.2.1, mw_X4_takeDues.2.2.2, mw_X4_takeDues.1, rfl, by decide, by decide, by decide +kernel⟩
theorem v_X4_127 : kV RX4 127 RX4 yX4_shortenTerms cX4_shortenTerms 4 (some .boolean) 0 := ⟨kWs_of 461 (by decide +kernel) rfl, mw_X4_shortenTerms.2.1, mw_X4_shortenTerms.2.2.1, mw_X4_shortenTerms.2.2.2, mw_X4_shortenTerms.1, rfl, by decide, by decide, by decide +kernel⟩
theorem v_X4_130 : kV RX4 130 RX4 yX4_removeUnseen cX4_removeUnseen 3 (some .int) 0 := ⟨kWs_of 465 (by decide +kernel) rfl, mw_X4_removeUnseen.2.1, mw_X4_removeUnseen.2.2.1, mw_X4_removeUnseen.2.2.2, mw_X4_removeUnseen.1, rfl, by decide, by decide, by decide +kernel⟩
theorem v_X4_134 : kV RX4 134 RX4 yX4_hasReader cX4_hasReader 2 (some .boolean) 1 := ⟨kWs_of 466 (by decide +kernel) rfl, mw_X4_hasReader.2.1, mw_X4_hasReader.2.2.1, mw_X4_hasReader.2.2.2, mw_X4_hasReader.1, rfl, by decide, by decide, by decide +kernel⟩
theorem g_X4_137 : kL RX4 137 RX3 TX3 9 tyX3 3 := ⟨by decide, inK3, tyX3_ok, nmX3, rfl, Or.inr ⟨"RentedMoments", List.mem_of_getElem? (i := 15) (by decide +kernel)⟩⟩
theorem g_X4_140 : kL RX4 140 RX3 TX3 9 tyX3 6 := ⟨by decide, inK3, tyX3_ok, nmX3, rfl, Or.inr ⟨"RentedMoments", List.mem_of_getElem? (i := 23) (by decide +kernel)⟩⟩
theorem g_X4_143 : kL RX4 143 RX0 TX0 3 tyX0 1 := ⟨by decide, inK0, tyX0_ok, nmX0, rfl, Or.inr ⟨"RentedMoments", List.mem_of_getElem? (i := 3) (by decide +kernel)⟩⟩
theorem v_X4_146 : kV RX4 146 RX1 yX1_isInSkewWithLater cX1_isInSkewWithLater 2 (some .boolean) 1 := ⟨kWs_of 298 (by decide +kernel) rfl, mw_X1_isInSkewWithLater.2.1, mw_X1_isInSkewWithLater.2.2.1, mw_X1_isInSkewWithLater.2.2.2, mw_X1_isInSkewWithLater.1, rfl, by decide, by decide, by decide +kernel⟩
theorem g_X4_150 : kL RX4 150 RX1 TX1 6 tyX1 5 := ⟨by decide, inK1, tyX1_ok, nmX1, rfl, Or.inr ⟨"RentedMoments", List.mem_of_getElem? (i := 39) (by decide +kernel)⟩⟩
theorem g_X4_158 : kL RX4 158 RX3 TX3 9 tyX3 5 := ⟨by decide, inK3, tyX3_ok, nmX3, rfl, Or.inr ⟨"RentedMoments", List.mem_of_getElem? (i := 21) (by decide +kernel)⟩⟩
theorem v_X4_161 : kV RX4 161 RX4 yX4_noteCommit cX4_noteCommit 4 none 1 := ⟨kWs_of 504 (by decide +kernel) rfl, mw_X4_noteCommit.2.1, mw_X4_noteCommit.2.2.1, mw_X4_noteCommit.2.2.2, mw_X4_noteCommit.1, rfl, by decide, by decide, by decide +kernel⟩
theorem v_X4_165 : kV RX4 165 RX4 yX4_pushWrites cX4_pushWrites 3 none 1 := ⟨kWs_of 509 (by decide +kernel) rfl, mw_X4_pushWrites.2.1, mw_X4_pushWrites.2.2.1, mw_X4_pushWrites.2.2.2, mw_X4_pushWrites.1, rfl, by decide, by decide, by decide +kernel⟩
theorem g_X4_168 : kL RX4 168 RX1 TX1 6 tyX1 0 := ⟨by decide, inK1, tyX1_ok, nmX1, rfl, Or.inr ⟨"RentedMoments", List.mem_of_getElem? (i := 29) (by decide +kernel)⟩⟩
theorem g_X4_171 : kL RX4 171 RX1 TX1 6 tyX1 1 := ⟨by decide, inK1, tyX1_ok, nmX1, rfl, Or.inr ⟨"RentedMoments", List.mem_of_getElem? (i := 31) (by decide +kernel)⟩⟩
theorem g_X4_174 : kL RX4 174 RX1 TX1 6 tyX1 2 := ⟨by decide, inK1, tyX1_ok, nmX1, rfl, Or.inr ⟨"RentedMoments", List.mem_of_getElem? (i := 33) (by decide +kernel)⟩⟩
theorem g_X4_177 : kL RX4 177 RX1 TX1 6 tyX1 3 := ⟨by decide, inK1, tyX1_ok, nmX1, rfl, Or.inr ⟨"RentedMoments", List.mem_of_getElem? (i := 35) (by decide +kernel)⟩⟩
theorem g_X4_178 : kL RX4 178 RX3 TX3 9 tyX3 4 := ⟨by decide, inK3, tyX3_ok, nmX3, rfl, Or.inr ⟨"RentedMoments", List.mem_of_getElem? (i := 18) (by decide +kernel)⟩⟩
theorem g_X4_181 : kL RX4 181 RX1 TX1 6 tyX1 4 := ⟨by decide, inK1, tyX1_ok, nmX1, rfl, Or.inr ⟨"RentedMoments", List.mem_of_getElem? (i := 37) (by decide +kernel)⟩⟩
theorem v_X4_182 : kV RX4 182 RX4 yX4_skewsOf cX4_skewsOf 4 (some .int) 1 := ⟨kWs_of 508 (by decide +kernel) rfl, mw_X4_skewsOf.2.1, mw_X4_skewsOf.2.2.1, mw_X4_skewsOf.2.2.2, mw_X4_skewsOf.1, rfl, by decide, by decide, by decide +kernel⟩
theorem g_X4_185 : kL RX4 185 RX3 TX3 9 tyX3 0 := ⟨by decide, inK3, tyX3_ok, nmX3, rfl, Or.inr ⟨"RentedMoments", List.mem_of_getElem? (i := 8) (by decide +kernel)⟩⟩
theorem v_X4_188 : kV RX4 188 RX0 yX0_push cX0_push 3 none 2 := ⟨kWs_of 513 (by decide +kernel) rfl, mw_X0_push.2.1, mw_X0_push.2.2.1, mw_X0_push.2.2.2, mw_X0_push.1, rfl, by decide, by decide, by decide +kernel⟩
theorem g_X5_9 : kL RX5 9 RX5 TX5 5 tyX5 0 := ⟨by decide, inK5, tyX5_ok, nmX5, rfl, Or.inl (kWs_of 207 (by decide +kernel) rfl)⟩
theorem g_X5_15 : kL RX5 15 RX5 TX5 5 tyX5 2 := ⟨by decide, inK5, tyX5_ok, nmX5, rfl, Or.inl (kWs_of 209 (by decide +kernel) rfl)⟩
theorem g_X5_19 : kL RX5 19 RX5 TX5 5 tyX5 3 := ⟨by decide, inK5, tyX5_ok, nmX5, rfl, Or.inl (kWs_of 210 (by decide +kernel) rfl)⟩
theorem v_L_13 : kV RL 13 RX6 yX6_count cX6_count 2 (some .int) 1 := ⟨kWs_of 302 (by decide +kernel) rfl, mw_X6_count.2.1, mw_X6_count.2.2.1, mw_X6_count.2.2.2, mw_X6_count.1, rfl, by decide, by decide, by decide +kernel⟩
theorem v_L_19 : kV RL 19 RX6 yX6_cell cX6_cell 4 (some .int) 2 := ⟨kWs_of 339 (by decide +kernel) rfl, mw_X6_cell.2.1, mw_X6_cell.2.2.1, mw_X6_cell.2.2.2, mw_X6_cell.1, rfl, by decide, by decide, by decide +kernel⟩
theorem v_L_23 : kV RL 23 RX6 yX6_version cX6_version 5 (some .int) 3 := ⟨kWs_of 355 (by decide +kernel) rfl, mw_X6_version.2.1, mw_X6_version.2.2.1, mw_X6_version.2.2.2, mw_X6_version.1, rfl, by decide, by decide, by decide +kernel⟩
theorem v_L_27 : kV RL 27 RX6 yX6_reader cX6_reader 4 (some .int) 2 := ⟨kWs_of 241 (by decide +kernel) rfl, mw_X6_reader.2.1, mw_X6_reader.2.2.1, mw_X6_reader.2.2.2, mw_X6_reader.1, rfl, by decide, by decide, by decide +kernel⟩
theorem v_L_30 : kV RL 30 RX6 yX6_committed cX6_committed 4 (some .int) 2 := ⟨kWs_of 361 (by decide +kernel) rfl, mw_X6_committed.2.1, mw_X6_committed.2.2.1, mw_X6_committed.2.2.2, mw_X6_committed.1, rfl, by decide, by decide, by decide +kernel⟩
theorem v_L_33 : kV RL 33 RX6 yX6_open cX6_open 2 (some .int) 1 := ⟨kWs_of 372 (by decide +kernel) rfl, mw_X6_open.2.1, mw_X6_open.2.2.1, mw_X6_open.2.2.2, mw_X6_open.1, rfl, by decide, by decide, by decide +kernel⟩
theorem v_L_36 : kV RL 36 RX6 yX6_pay cX6_pay 4 (some .int) 2 := ⟨kWs_of 412 (by decide +kernel) rfl, mw_X6_pay.2.1, mw_X6_pay.2.2.1, mw_X6_pay.2.2.2, mw_X6_pay.1, rfl, by decide, by decide, by decide +kernel⟩
theorem v_L_39 : kV RL 39 RX6 yX6_widow cX6_widow 5 (some .int) 2 := ⟨kWs_of 416 (by decide +kernel) rfl, mw_X6_widow.2.1, mw_X6_widow.2.2.1, mw_X6_widow.2.2.2, mw_X6_widow.1, rfl, by decide, by decide, by decide +kernel⟩
theorem v_L_42 : kV RL 42 RX6 yX6_close cX6_close 3 (some .int) 1 := ⟨kWs_of 420 (by decide +kernel) rfl, mw_X6_close.2.1, mw_X6_close.2.2.1, mw_X6_close.2.2.2, mw_X6_close.1, rfl, by decide, by decide, by decide +kernel⟩
theorem v_L_45 : kV RL 45 RX6 yX6_setRent cX6_setRent 3 (some .int) 1 := ⟨kWs_of 436 (by decide +kernel) rfl, mw_X6_setRent.2.1, mw_X6_setRent.2.2.1, mw_X6_setRent.2.2.2, mw_X6_setRent.1, rfl, by decide, by decide, by decide +kernel⟩
theorem v_L_48 : kV RL 48 RX6 yX6_tick cX6_tick 3 (some .int) 1 := ⟨kWs_of 444 (by decide +kernel) rfl, mw_X6_tick.2.1, mw_X6_tick.2.2.1, mw_X6_tick.2.2.2, mw_X6_tick.1, rfl, by decide, by decide, by decide +kernel⟩
theorem v_L_51 : kV RL 51 RX6 yX6_write cX6_write 5 (some .int) 3 := ⟨kWs_of 473 (by decide +kernel) rfl, mw_X6_write.2.1, mw_X6_write.2.2.1, mw_X6_write.2.2.2, mw_X6_write.1, rfl, by decide, by decide, by decide +kernel⟩
theorem v_L_54 : kV RL 54 RX6 yX6_commit cX6_commit 3 (some .int) 1 := ⟨kWs_of 491 (by decide +kernel) rfl, mw_X6_commit.2.1, mw_X6_commit.2.2.1, mw_X6_commit.2.2.2, mw_X6_commit.1, rfl, by decide, by decide, by decide +kernel⟩
theorem v_L_57 : kVs RL 57 yL_up cL_up 2 (some .int) 2 := ⟨kWs_of 368 (by decide +kernel) rfl, mw_L_up.2.1, mw_L_up.2.2, mw_L_up.1, rfl, by decide, by decide, by decide +kernel⟩
theorem v_L_62 : kV RL 62 RX6 yX6_forbidSkew cX6_forbidSkew 2 (some .int) 1 := ⟨kWs_of 440 (by decide +kernel) rfl, mw_X6_forbidSkew.2.1, mw_X6_forbidSkew.2.2.1, mw_X6_forbidSkew.2.2.2, mw_X6_forbidSkew.1, rfl, by decide, by decide, by decide +kernel⟩
theorem v_L_66 : kV RL 66 RX6 yX6_read cX6_read 4 (some .int) 2 := ⟨kWs_of 467 (by decide +kernel) rfl, mw_X6_read.2.1, mw_X6_read.2.2.1, mw_X6_read.2.2.2, mw_X6_read.1, rfl, by decide, by decide, by decide +kernel⟩
theorem v_L_69 : kVs RL 69 yL_any cL_any 3 (some .int) 3 := ⟨kWs_of 517 (by decide +kernel) rfl, mw_L_any.2.1, mw_L_any.2.2, mw_L_any.1, rfl, by decide, by decide, by decide +kernel⟩
theorem v_L_73 : kVs RL 73 yL_view cL_view 6 (some .long) 1 := ⟨kWs_of 334 (by decide +kernel) rfl, mw_L_view.2.1, mw_L_view.2.2, mw_L_view.1, rfl, by decide, by decide, by decide +kernel⟩
theorem v_L_77 : kV RL 77 RX6 yX6_undo cX6_undo 1 (some .int) 0 := ⟨kWs_of 535 (by decide +kernel) rfl, mw_X6_undo.2.1, mw_X6_undo.2.2.1, mw_X6_undo.2.2.2, mw_X6_undo.1, rfl, by decide, by decide, by decide +kernel⟩
theorem v_L_81 : kVs RL 81 yL_turn cL_turn 5 (some .int) 4 := ⟨kWs_of 365 (by decide +kernel) rfl, mw_L_turn.2.1, mw_L_turn.2.2, mw_L_turn.1, rfl, by decide, by decide, by decide +kernel⟩
theorem v_L_86 : kVs RL 86 yL_cell cL_cell 2 (some .int) 2 := ⟨kWs_of 330 (by decide +kernel) rfl, mw_L_cell.2.1, mw_L_cell.2.2, mw_L_cell.1, rfl, by decide, by decide, by decide +kernel⟩
theorem v_L_89 : kVs RL 89 yL_seen cL_seen 2 (some .int) 2 := ⟨kWs_of 520 (by decide +kernel) rfl, mw_L_seen.2.1, mw_L_seen.2.2, mw_L_seen.1, rfl, by decide, by decide, by decide +kernel⟩
theorem v_L_93 : kVs RL 93 yL_putBy cL_putBy 4 (some .long) 4 := ⟨kWs_of 529 (by decide +kernel) rfl, mw_L_putBy.2.1, mw_L_putBy.2.2, mw_L_putBy.1, rfl, by decide, by decide, by decide +kernel⟩
theorem v_L_97 : kVs RL 97 yL_isUndone cL_isUndone 10 (some .boolean) 6 := ⟨kWs_of 532 (by decide +kernel) rfl, mw_L_isUndone.2.1, mw_L_isUndone.2.2, mw_L_isUndone.1, rfl, by decide, by decide, by decide +kernel⟩
theorem v_L_101 : kVs RL 101 yL_areVersions cL_areVersions 6 (some .boolean) 1 := ⟨kWs_of 523 (by decide +kernel) rfl, mw_L_areVersions.2.1, mw_L_areVersions.2.2, mw_L_areVersions.1, rfl, by decide, by decide, by decide +kernel⟩
theorem v_L_105 : kVs RL 105 yL_coins cL_coins 6 (some .long) 2 := ⟨kWs_of 526 (by decide +kernel) rfl, mw_L_coins.2.1, mw_L_coins.2.2, mw_L_coins.1, rfl, by decide, by decide, by decide +kernel⟩
