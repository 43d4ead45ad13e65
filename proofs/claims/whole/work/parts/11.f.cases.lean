/-! The law's cases: the class is asked, then the reference; they answer alike. -/
section CASES
variable {p : Program} {e : Env} {s : State} {m : MethodId} {args : Array Value} {below : List Frame} {meth : Method} {c : Code} {H : Heap} {locs : List Loc} {Q : State → Prop}
variable {ls : Array Slot} {D : va_G} {τ : Nat → ClassId} {ad : Nat → Nat} {G : Nat → Nat → Int32} {A : Nat → Prop} {b L i : Nat} {xs : Nat → Int32}
theorem i2c_N (x : Int32) : ∃ q : Nat, q < 65536 ∧ (x.toUInt32 % 65536).toInt32 = nI q := by
  refine ⟨(x.toUInt32 % 65536).toNat, ?_, ?_⟩
  · rw [UInt32.toNat_mod]
    exact Nat.mod_lt _ (by decide)
  · apply Int32.toBitVec_inj.mp
    show (x.toUInt32 % 65536).toBitVec = BitVec.ofNat 32 (x.toUInt32 % 65536).toNat
    apply BitVec.eq_of_toNat_eq
    rw [BitVec.toNat_ofNat, Nat.mod_eq_of_lt (x.toUInt32 % 65536).toNat_lt]
    rfl
set_option maxHeartbeats 4000000 in
set_option maxRecDepth 100000 in
theorem lc_open (l : Launch) (X : kC p s m c code 4 args RL D τ) (hX : va_X b L xs s s.heap) (hbl : b < s.heap.size) (hbA : ¬ A b) (hI : kInj ad) (hA : ∀ q, kAd ad q → A q) (hR : REL G) (hP : va_P D vwCl (kW τ ad G) H) (hS : va_S A s.heap H locs) (hi : i + 4 ≤ L) (hL : L ≤ 2048) (hl : lv_has ls 4 [(0, .ref b), (1, .ref (ad 7)), (2, .ref (ad 0)), (3, .int (nI i))])
    (kk : ∀ (G : Nat → Nat → Int32) (H : Heap) (locs : List Loc), REL G → va_P D vwCl (kW τ ad G) H → va_S A s.heap H locs → W p l e room_1 s m args below meth c H locs 600000 7302250 Q (F0 m 720 ls [])) : W p l e room_1 s m args below meth c H locs 600000 7302250 Q (F0 m 136 ls []) := by
  have hx := X.1
  have hb := X.2.1
  have hs : lv_has ls 4 [(0, .ref b), (3, .int (nI i))] := lv_sub hl [0, 3] rfl
  refine lv_aload_n hx hb dL_law_136 rfl (lv_at hl 1 rfl) ?_
  refine kscr (k := 1) hx hb hX hbl hbA hS (by omega) hL hs (n := 1) (by decide) dL_law_137 dL_law_138 dL_law_139 dL_law_140 dL_law_141 ?_
  refine kcVA X hP hS hA (lw_open l hI hR) oX v_L_13 ⟨Nat.le_of_ble_eq_true rfl, Nat.le_of_ble_eq_true rfl, rfl, rfl⟩ rfl rfl (Nat.le_of_ble_eq_true rfl) hl.1 ⟨Nat.le_refl _, Nat.le_refl _⟩ dL_law_142 (fun v G1 H locs hM2 hP hS => ?_)
  refine lv_aload_n hx hb dL_law_145 rfl (lv_at hl 2 rfl) ?_
  refine kscr (k := 1) hx hb hX hbl hbA hS (by omega) hL hs (n := 1) (by decide) dL_law_146 dL_law_147 dL_law_148 dL_law_149 dL_law_150 ?_
  refine kcVA X hP hS hA hM2 oJ v_L_17 ⟨Nat.le_of_ble_eq_true rfl, Nat.le_of_ble_eq_true rfl, rfl, rfl⟩ rfl rfl (Nat.le_of_ble_eq_true rfl) hl.1 ⟨Nat.le_refl _, Nat.le_refl _⟩ dL_law_151 (fun w G2 H locs hR2 hP hS => ?_)
  refine lv_icmp_eq (tgt := 720) hx hb dL_law_154 (by decide) (fun _ => ?_) (fun z => ?_)
  · exact kk _ _ _ hR2.2 hP hS
  · exact absurd hR2.1.symm z
set_option maxHeartbeats 4000000 in
set_option maxRecDepth 100000 in
theorem lc_pay (l : Launch) (X : kC p s m c code 4 args RL D τ) (hX : va_X b L xs s s.heap) (hbl : b < s.heap.size) (hbA : ¬ A b) (hI : kInj ad) (hA : ∀ q, kAd ad q → A q) (hR : REL G) (hP : va_P D vwCl (kW τ ad G) H) (hS : va_S A s.heap H locs) (hi : i + 4 ≤ L) (hL : L ≤ 2048) (hl : lv_has ls 4 [(0, .ref b), (1, .ref (ad 7)), (2, .ref (ad 0)), (3, .int (nI i))])
    (kk : ∀ (G : Nat → Nat → Int32) (H : Heap) (locs : List Loc), REL G → va_P D vwCl (kW τ ad G) H → va_S A s.heap H locs → W p l e room_1 s m args below meth c H locs 600000 7302250 Q (F0 m 720 ls [])) : W p l e room_1 s m args below meth c H locs 600000 7302250 Q (F0 m 159 ls []) := by
  have hx := X.1
  have hb := X.2.1
  have hs : lv_has ls 4 [(0, .ref b), (3, .int (nI i))] := lv_sub hl [0, 3] rfl
  refine lv_aload_n hx hb dL_law_159 rfl (lv_at hl 1 rfl) ?_
  refine kscr (k := 1) hx hb hX hbl hbA hS (by omega) hL hs (n := 1) (by decide) dL_law_160 dL_law_161 dL_law_162 dL_law_163 dL_law_164 ?_
  refine kscr (k := 2) hx hb hX hbl hbA hS (by omega) hL hs (n := 2) (by decide) dL_law_165 dL_law_166 dL_law_167 dL_law_168 dL_law_169 ?_
  refine kcVA X hP hS hA (lw_pay l hI hR) oX v_L_18 ⟨Nat.le_of_ble_eq_true rfl, Nat.le_of_ble_eq_true rfl, rfl, rfl⟩ rfl rfl (Nat.le_of_ble_eq_true rfl) hl.1 ⟨Nat.le_refl _, Nat.le_refl _⟩ dL_law_170 (fun v G1 H locs hM2 hP hS => ?_)
  refine lv_aload_n hx hb dL_law_173 rfl (lv_at hl 2 rfl) ?_
  refine kscr (k := 1) hx hb hX hbl hbA hS (by omega) hL hs (n := 1) (by decide) dL_law_174 dL_law_175 dL_law_176 dL_law_177 dL_law_178 ?_
  refine kscr (k := 2) hx hb hX hbl hbA hS (by omega) hL hs (n := 2) (by decide) dL_law_179 dL_law_180 dL_law_181 dL_law_182 dL_law_183 ?_
  refine kcVA X hP hS hA hM2 oJ v_L_22 ⟨Nat.le_of_ble_eq_true rfl, Nat.le_of_ble_eq_true rfl, rfl, rfl⟩ rfl rfl (Nat.le_of_ble_eq_true rfl) hl.1 ⟨Nat.le_refl _, Nat.le_refl _⟩ dL_law_184 (fun w G2 H locs hR2 hP hS => ?_)
  refine lv_icmp_eq (tgt := 720) hx hb dL_law_187 (by decide) (fun _ => ?_) (fun z => ?_)
  · exact kk _ _ _ hR2.2 hP hS
  · exact absurd hR2.1.symm z
set_option maxHeartbeats 4000000 in
set_option maxRecDepth 100000 in
theorem lc_widow (l : Launch) (X : kC p s m c code 4 args RL D τ) (hX : va_X b L xs s s.heap) (hbl : b < s.heap.size) (hbA : ¬ A b) (hI : kInj ad) (hA : ∀ q, kAd ad q → A q) (hR : REL G) (hP : va_P D vwCl (kW τ ad G) H) (hS : va_S A s.heap H locs) (hi : i + 4 ≤ L) (hL : L ≤ 2048) (hl : lv_has ls 4 [(0, .ref b), (1, .ref (ad 7)), (2, .ref (ad 0)), (3, .int (nI i))])
    (kk : ∀ (G : Nat → Nat → Int32) (H : Heap) (locs : List Loc), REL G → va_P D vwCl (kW τ ad G) H → va_S A s.heap H locs → W p l e room_1 s m args below meth c H locs 600000 7302250 Q (F0 m 720 ls [])) : W p l e room_1 s m args below meth c H locs 600000 7302250 Q (F0 m 192 ls []) := by
  have hx := X.1
  have hb := X.2.1
  have hs : lv_has ls 4 [(0, .ref b), (3, .int (nI i))] := lv_sub hl [0, 3] rfl
  refine lv_aload_n hx hb dL_law_192 rfl (lv_at hl 1 rfl) ?_
  refine kscr (k := 1) hx hb hX hbl hbA hS (by omega) hL hs (n := 1) (by decide) dL_law_193 dL_law_194 dL_law_195 dL_law_196 dL_law_197 ?_
  refine kscr (k := 2) hx hb hX hbl hbA hS (by omega) hL hs (n := 2) (by decide) dL_law_198 dL_law_199 dL_law_200 dL_law_201 dL_law_202 ?_
  refine kcVA X hP hS hA (lw_widow l hI hR) oX v_L_23 ⟨Nat.le_of_ble_eq_true rfl, Nat.le_of_ble_eq_true rfl, rfl, rfl⟩ rfl rfl (Nat.le_of_ble_eq_true rfl) hl.1 ⟨Nat.le_refl _, Nat.le_refl _⟩ dL_law_203 (fun v G1 H locs hM2 hP hS => ?_)
  refine lv_aload_n hx hb dL_law_206 rfl (lv_at hl 2 rfl) ?_
  refine kscr (k := 1) hx hb hX hbl hbA hS (by omega) hL hs (n := 1) (by decide) dL_law_207 dL_law_208 dL_law_209 dL_law_210 dL_law_211 ?_
  refine kscr (k := 2) hx hb hX hbl hbA hS (by omega) hL hs (n := 2) (by decide) dL_law_212 dL_law_213 dL_law_214 dL_law_215 dL_law_216 ?_
  refine kcVA X hP hS hA hM2 oJ v_L_26 ⟨Nat.le_of_ble_eq_true rfl, Nat.le_of_ble_eq_true rfl, rfl, rfl⟩ rfl rfl (Nat.le_of_ble_eq_true rfl) hl.1 ⟨Nat.le_refl _, Nat.le_refl _⟩ dL_law_217 (fun w G2 H locs hR2 hP hS => ?_)
  refine lv_icmp_eq (tgt := 720) hx hb dL_law_220 (by decide) (fun _ => ?_) (fun z => ?_)
  · exact kk _ _ _ hR2.2 hP hS
  · exact absurd hR2.1.symm z
set_option maxHeartbeats 4000000 in
set_option maxRecDepth 100000 in
theorem lc_close (l : Launch) (X : kC p s m c code 4 args RL D τ) (hX : va_X b L xs s s.heap) (hbl : b < s.heap.size) (hbA : ¬ A b) (hI : kInj ad) (hA : ∀ q, kAd ad q → A q) (hR : REL G) (hP : va_P D vwCl (kW τ ad G) H) (hS : va_S A s.heap H locs) (hi : i + 4 ≤ L) (hL : L ≤ 2048) (hl : lv_has ls 4 [(0, .ref b), (1, .ref (ad 7)), (2, .ref (ad 0)), (3, .int (nI i))])
    (kk : ∀ (G : Nat → Nat → Int32) (H : Heap) (locs : List Loc), REL G → va_P D vwCl (kW τ ad G) H → va_S A s.heap H locs → W p l e room_1 s m args below meth c H locs 600000 7302250 Q (F0 m 720 ls [])) : W p l e room_1 s m args below meth c H locs 600000 7302250 Q (F0 m 225 ls []) := by
  have hx := X.1
  have hb := X.2.1
  have hs : lv_has ls 4 [(0, .ref b), (3, .int (nI i))] := lv_sub hl [0, 3] rfl
  refine lv_aload_n hx hb dL_law_225 rfl (lv_at hl 1 rfl) ?_
  refine kscr (k := 1) hx hb hX hbl hbA hS (by omega) hL hs (n := 1) (by decide) dL_law_226 dL_law_227 dL_law_228 dL_law_229 dL_law_230 ?_
  refine kcVA X hP hS hA (lw_close l hI hR) oX v_L_27 ⟨Nat.le_of_ble_eq_true rfl, Nat.le_of_ble_eq_true rfl, rfl, rfl⟩ rfl rfl (Nat.le_of_ble_eq_true rfl) hl.1 ⟨Nat.le_refl _, Nat.le_refl _⟩ dL_law_231 (fun v G1 H locs hM2 hP hS => ?_)
  refine lv_aload_n hx hb dL_law_234 rfl (lv_at hl 2 rfl) ?_
  refine kscr (k := 1) hx hb hX hbl hbA hS (by omega) hL hs (n := 1) (by decide) dL_law_235 dL_law_236 dL_law_237 dL_law_238 dL_law_239 ?_
  refine kcVA X hP hS hA hM2 oJ v_L_30 ⟨Nat.le_of_ble_eq_true rfl, Nat.le_of_ble_eq_true rfl, rfl, rfl⟩ rfl rfl (Nat.le_of_ble_eq_true rfl) hl.1 ⟨Nat.le_refl _, Nat.le_refl _⟩ dL_law_240 (fun w G2 H locs hR2 hP hS => ?_)
  refine lv_icmp_eq (tgt := 720) hx hb dL_law_243 (by decide) (fun _ => ?_) (fun z => ?_)
  · exact kk _ _ _ hR2.2 hP hS
  · exact absurd hR2.1.symm z
set_option maxHeartbeats 4000000 in
set_option maxRecDepth 100000 in
theorem lc_setRent (l : Launch) (X : kC p s m c code 4 args RL D τ) (hX : va_X b L xs s s.heap) (hbl : b < s.heap.size) (hbA : ¬ A b) (hI : kInj ad) (hA : ∀ q, kAd ad q → A q) (hR : REL G) (hP : va_P D vwCl (kW τ ad G) H) (hS : va_S A s.heap H locs) (hi : i + 4 ≤ L) (hL : L ≤ 2048) (hl : lv_has ls 4 [(0, .ref b), (1, .ref (ad 7)), (2, .ref (ad 0)), (3, .int (nI i))])
    (kk : ∀ (G : Nat → Nat → Int32) (H : Heap) (locs : List Loc), REL G → va_P D vwCl (kW τ ad G) H → va_S A s.heap H locs → W p l e room_1 s m args below meth c H locs 600000 7302250 Q (F0 m 720 ls [])) : W p l e room_1 s m args below meth c H locs 600000 7302250 Q (F0 m 248 ls []) := by
  have hx := X.1
  have hb := X.2.1
  have hs : lv_has ls 4 [(0, .ref b), (3, .int (nI i))] := lv_sub hl [0, 3] rfl
  refine lv_aload_n hx hb dL_law_248 rfl (lv_at hl 1 rfl) ?_
  refine kscr (k := 1) hx hb hX hbl hbA hS (by omega) hL hs (n := 1) (by decide) dL_law_249 dL_law_250 dL_law_251 dL_law_252 dL_law_253 ?_
  refine kcVA X hP hS hA (lw_setRent l hI hR) oX v_L_31 ⟨Nat.le_of_ble_eq_true rfl, Nat.le_of_ble_eq_true rfl, rfl, rfl⟩ rfl rfl (Nat.le_of_ble_eq_true rfl) hl.1 ⟨Nat.le_refl _, Nat.le_refl _⟩ dL_law_254 (fun v G1 H locs hM2 hP hS => ?_)
  refine lv_aload_n hx hb dL_law_257 rfl (lv_at hl 2 rfl) ?_
  refine kscr (k := 1) hx hb hX hbl hbA hS (by omega) hL hs (n := 1) (by decide) dL_law_258 dL_law_259 dL_law_260 dL_law_261 dL_law_262 ?_
  refine kcVA X hP hS hA hM2 oJ v_L_34 ⟨Nat.le_of_ble_eq_true rfl, Nat.le_of_ble_eq_true rfl, rfl, rfl⟩ rfl rfl (Nat.le_of_ble_eq_true rfl) hl.1 ⟨Nat.le_refl _, Nat.le_refl _⟩ dL_law_263 (fun w G2 H locs hR2 hP hS => ?_)
  refine lv_icmp_eq (tgt := 720) hx hb dL_law_266 (by decide) (fun _ => ?_) (fun z => ?_)
  · exact kk _ _ _ hR2.2 hP hS
  · exact absurd hR2.1.symm z
set_option maxHeartbeats 4000000 in
set_option maxRecDepth 100000 in
theorem lc_forbidSkew (l : Launch) (X : kC p s m c code 4 args RL D τ) (hX : va_X b L xs s s.heap) (hbl : b < s.heap.size) (hbA : ¬ A b) (hI : kInj ad) (hA : ∀ q, kAd ad q → A q) (hR : REL G) (hP : va_P D vwCl (kW τ ad G) H) (hS : va_S A s.heap H locs) (hi : i + 4 ≤ L) (hL : L ≤ 2048) (hl : lv_has ls 4 [(0, .ref b), (1, .ref (ad 7)), (2, .ref (ad 0)), (3, .int (nI i))])
    (kk : ∀ (G : Nat → Nat → Int32) (H : Heap) (locs : List Loc), REL G → va_P D vwCl (kW τ ad G) H → va_S A s.heap H locs → W p l e room_1 s m args below meth c H locs 600000 7302250 Q (F0 m 720 ls [])) : W p l e room_1 s m args below meth c H locs 600000 7302250 Q (F0 m 271 ls []) := by
  have hx := X.1
  have hb := X.2.1
  have hs : lv_has ls 4 [(0, .ref b), (3, .int (nI i))] := lv_sub hl [0, 3] rfl
  refine lv_aload_n hx hb dL_law_271 rfl (lv_at hl 1 rfl) ?_
  by_cases cz : xs (i + 1) = 0
  · skip
    refine kscr (k := 1) hx hb hX hbl hbA hS (by omega) hL hs (n := 1) (by decide) dL_law_272 dL_law_273 dL_law_274 dL_law_275 dL_law_276 ?_
    refine lv_if_eq (tgt := 284) hx hb dL_law_277 (by decide) (fun _ => ?_) (fun z => absurd cz z)
    refine lv_iconst (v := nI 0) hx hb dL_law_284 (by decide) ?_
    refine kcVA X hP hS hA (lw_forbidSkew l hI hR (b := 0) (by omega)) oX v_L_35 ⟨Nat.le_of_ble_eq_true rfl, Nat.le_of_ble_eq_true rfl, rfl, rfl⟩ rfl rfl (Nat.le_of_ble_eq_true rfl) hl.1 ⟨Nat.le_refl _, Nat.le_refl _⟩ dL_law_285 (fun v G1 H locs hM2 hP hS => ?_)
    refine lv_aload_n hx hb dL_law_288 rfl (lv_at hl 2 rfl) ?_
    refine kscr (k := 1) hx hb hX hbl hbA hS (by omega) hL hs (n := 1) (by decide) dL_law_289 dL_law_290 dL_law_291 dL_law_292 dL_law_293 ?_
    refine lv_if_eq (tgt := 301) hx hb dL_law_294 (by decide) (fun _ => ?_) (fun z => absurd cz z)
    refine lv_iconst (v := nI 0) hx hb dL_law_301 (by decide) ?_
    refine kcVA X hP hS hA hM2 oJ v_L_39 ⟨Nat.le_of_ble_eq_true rfl, Nat.le_of_ble_eq_true rfl, rfl, rfl⟩ rfl rfl (Nat.le_of_ble_eq_true rfl) hl.1 ⟨Nat.le_refl _, Nat.le_refl _⟩ dL_law_302 (fun w G2 H locs hR2 hP hS => ?_)
    refine lv_icmp_eq (tgt := 720) hx hb dL_law_305 (by decide) (fun _ => ?_) (fun z => ?_)
    · exact kk _ _ _ hR2.2 hP hS
    · exact absurd hR2.1.symm z
  · skip
    refine kscr (k := 1) hx hb hX hbl hbA hS (by omega) hL hs (n := 1) (by decide) dL_law_272 dL_law_273 dL_law_274 dL_law_275 dL_law_276 ?_
    refine lv_if_eq (tgt := 284) hx hb dL_law_277 (by decide) (fun z => absurd z cz) (fun _ => ?_)
    refine lv_iconst (v := nI 1) hx hb dL_law_280 (by decide) ?_
    refine lv_goto (tgt := 285) hx hb dL_law_281 (by decide) ?_
    refine kcVA X hP hS hA (lw_forbidSkew l hI hR (b := 1) (by omega)) oX v_L_35 ⟨Nat.le_of_ble_eq_true rfl, Nat.le_of_ble_eq_true rfl, rfl, rfl⟩ rfl rfl (Nat.le_of_ble_eq_true rfl) hl.1 ⟨Nat.le_refl _, Nat.le_refl _⟩ dL_law_285 (fun v G1 H locs hM2 hP hS => ?_)
    refine lv_aload_n hx hb dL_law_288 rfl (lv_at hl 2 rfl) ?_
    refine kscr (k := 1) hx hb hX hbl hbA hS (by omega) hL hs (n := 1) (by decide) dL_law_289 dL_law_290 dL_law_291 dL_law_292 dL_law_293 ?_
    refine lv_if_eq (tgt := 301) hx hb dL_law_294 (by decide) (fun z => absurd z cz) (fun _ => ?_)
    refine lv_iconst (v := nI 1) hx hb dL_law_297 (by decide) ?_
    refine lv_goto (tgt := 302) hx hb dL_law_298 (by decide) ?_
    refine kcVA X hP hS hA hM2 oJ v_L_39 ⟨Nat.le_of_ble_eq_true rfl, Nat.le_of_ble_eq_true rfl, rfl, rfl⟩ rfl rfl (Nat.le_of_ble_eq_true rfl) hl.1 ⟨Nat.le_refl _, Nat.le_refl _⟩ dL_law_302 (fun w G2 H locs hR2 hP hS => ?_)
    refine lv_icmp_eq (tgt := 720) hx hb dL_law_305 (by decide) (fun _ => ?_) (fun z => ?_)
    · exact kk _ _ _ hR2.2 hP hS
    · exact absurd hR2.1.symm z
set_option maxHeartbeats 4000000 in
set_option maxRecDepth 100000 in
theorem lc_tick (l : Launch) (X : kC p s m c code 4 args RL D τ) (hX : va_X b L xs s s.heap) (hbl : b < s.heap.size) (hbA : ¬ A b) (hI : kInj ad) (hA : ∀ q, kAd ad q → A q) (hR : REL G) (hP : va_P D vwCl (kW τ ad G) H) (hS : va_S A s.heap H locs) (hi : i + 4 ≤ L) (hL : L ≤ 2048) (hl : lv_has ls 4 [(0, .ref b), (1, .ref (ad 7)), (2, .ref (ad 0)), (3, .int (nI i))])
    (kk : ∀ (G : Nat → Nat → Int32) (H : Heap) (locs : List Loc), REL G → va_P D vwCl (kW τ ad G) H → va_S A s.heap H locs → W p l e room_1 s m args below meth c H locs 600000 7302250 Q (F0 m 720 ls [])) : W p l e room_1 s m args below meth c H locs 600000 7302250 Q (F0 m 310 ls []) := by
  have hx := X.1
  have hb := X.2.1
  have hs : lv_has ls 4 [(0, .ref b), (3, .int (nI i))] := lv_sub hl [0, 3] rfl
  refine lv_aload_n hx hb dL_law_310 rfl (lv_at hl 1 rfl) ?_
  refine kscr (k := 1) hx hb hX hbl hbA hS (by omega) hL hs (n := 1) (by decide) dL_law_311 dL_law_312 dL_law_313 dL_law_314 dL_law_315 ?_
  refine kcVA X hP hS hA (lw_tick l hI hR) oX v_L_40 ⟨Nat.le_of_ble_eq_true rfl, Nat.le_of_ble_eq_true rfl, rfl, rfl⟩ rfl rfl (Nat.le_of_ble_eq_true rfl) hl.1 ⟨Nat.le_refl _, Nat.le_refl _⟩ dL_law_316 (fun v G1 H locs hM2 hP hS => ?_)
  refine lv_aload_n hx hb dL_law_319 rfl (lv_at hl 2 rfl) ?_
  refine kscr (k := 1) hx hb hX hbl hbA hS (by omega) hL hs (n := 1) (by decide) dL_law_320 dL_law_321 dL_law_322 dL_law_323 dL_law_324 ?_
  refine kcVA X hP hS hA hM2 oJ v_L_43 ⟨Nat.le_of_ble_eq_true rfl, Nat.le_of_ble_eq_true rfl, rfl, rfl⟩ rfl rfl (Nat.le_of_ble_eq_true rfl) hl.1 ⟨Nat.le_refl _, Nat.le_refl _⟩ dL_law_325 (fun w G2 H locs hR2 hP hS => ?_)
  refine lv_icmp_eq (tgt := 720) hx hb dL_law_328 (by decide) (fun _ => ?_) (fun z => ?_)
  · exact kk _ _ _ hR2.2 hP hS
  · exact absurd hR2.1.symm z
set_option maxHeartbeats 4000000 in
set_option maxRecDepth 100000 in
theorem lc_read (l : Launch) (X : kC p s m c code 4 args RL D τ) (hX : va_X b L xs s s.heap) (hbl : b < s.heap.size) (hbA : ¬ A b) (hI : kInj ad) (hA : ∀ q, kAd ad q → A q) (hR : REL G) (hP : va_P D vwCl (kW τ ad G) H) (hS : va_S A s.heap H locs) (hi : i + 4 ≤ L) (hL : L ≤ 2048) (hl : lv_has ls 4 [(0, .ref b), (1, .ref (ad 7)), (2, .ref (ad 0)), (3, .int (nI i))])
    (kk : ∀ (G : Nat → Nat → Int32) (H : Heap) (locs : List Loc), REL G → va_P D vwCl (kW τ ad G) H → va_S A s.heap H locs → W p l e room_1 s m args below meth c H locs 600000 7302250 Q (F0 m 720 ls [])) : W p l e room_1 s m args below meth c H locs 600000 7302250 Q (F0 m 333 ls []) := by
  have hx := X.1
  have hb := X.2.1
  have hs : lv_has ls 4 [(0, .ref b), (3, .int (nI i))] := lv_sub hl [0, 3] rfl
  refine lv_aload_n hx hb dL_law_333 rfl (lv_at hl 1 rfl) ?_
  refine kscr (k := 1) hx hb hX hbl hbA hS (by omega) hL hs (n := 1) (by decide) dL_law_334 dL_law_335 dL_law_336 dL_law_337 dL_law_338 ?_
  refine kscr (k := 2) hx hb hX hbl hbA hS (by omega) hL hs (n := 2) (by decide) dL_law_339 dL_law_340 dL_law_341 dL_law_342 dL_law_343 ?_
  refine kcVA X hP hS hA (lw_read l hI hR) oX v_L_44 ⟨Nat.le_of_ble_eq_true rfl, Nat.le_of_ble_eq_true rfl, rfl, rfl⟩ rfl rfl (Nat.le_of_ble_eq_true rfl) hl.1 ⟨Nat.le_refl _, Nat.le_refl _⟩ dL_law_344 (fun v G1 H locs hM2 hP hS => ?_)
  refine lv_aload_n hx hb dL_law_347 rfl (lv_at hl 2 rfl) ?_
  refine kscr (k := 1) hx hb hX hbl hbA hS (by omega) hL hs (n := 1) (by decide) dL_law_348 dL_law_349 dL_law_350 dL_law_351 dL_law_352 ?_
  refine kscr (k := 2) hx hb hX hbl hbA hS (by omega) hL hs (n := 2) (by decide) dL_law_353 dL_law_354 dL_law_355 dL_law_356 dL_law_357 ?_
  refine kcVA X hP hS hA hM2 oJ v_L_47 ⟨Nat.le_of_ble_eq_true rfl, Nat.le_of_ble_eq_true rfl, rfl, rfl⟩ rfl rfl (Nat.le_of_ble_eq_true rfl) hl.1 ⟨Nat.le_refl _, Nat.le_refl _⟩ dL_law_358 (fun w G2 H locs hR2 hP hS => ?_)
  refine lv_icmp_eq (tgt := 720) hx hb dL_law_361 (by decide) (fun _ => ?_) (fun z => ?_)
  · exact kk _ _ _ hR2.2 hP hS
  · exact absurd hR2.1.symm z
set_option maxHeartbeats 4000000 in
set_option maxRecDepth 100000 in
theorem lc_write (l : Launch) (X : kC p s m c code 4 args RL D τ) (hX : va_X b L xs s s.heap) (hbl : b < s.heap.size) (hbA : ¬ A b) (hI : kInj ad) (hA : ∀ q, kAd ad q → A q) (hR : REL G) (hP : va_P D vwCl (kW τ ad G) H) (hS : va_S A s.heap H locs) (hi : i + 4 ≤ L) (hL : L ≤ 2048) (hl : lv_has ls 4 [(0, .ref b), (1, .ref (ad 7)), (2, .ref (ad 0)), (3, .int (nI i))])
    (kk : ∀ (G : Nat → Nat → Int32) (H : Heap) (locs : List Loc), REL G → va_P D vwCl (kW τ ad G) H → va_S A s.heap H locs → W p l e room_1 s m args below meth c H locs 600000 7302250 Q (F0 m 720 ls [])) : W p l e room_1 s m args below meth c H locs 600000 7302250 Q (F0 m 366 ls []) := by
  have hx := X.1
  have hb := X.2.1
  have hs : lv_has ls 4 [(0, .ref b), (3, .int (nI i))] := lv_sub hl [0, 3] rfl
  refine lv_aload_n hx hb dL_law_366 rfl (lv_at hl 1 rfl) ?_
  refine kscr (k := 1) hx hb hX hbl hbA hS (by omega) hL hs (n := 1) (by decide) dL_law_367 dL_law_368 dL_law_369 dL_law_370 dL_law_371 ?_
  refine kscr (k := 2) hx hb hX hbl hbA hS (by omega) hL hs (n := 2) (by decide) dL_law_372 dL_law_373 dL_law_374 dL_law_375 dL_law_376 ?_
  refine kscr (k := 3) hx hb hX hbl hbA hS (by omega) hL hs (n := 3) (by decide) dL_law_377 dL_law_378 dL_law_379 dL_law_380 dL_law_381 ?_
  refine kcVA X hP hS hA (lw_write l hI hR) oX v_L_48 ⟨Nat.le_of_ble_eq_true rfl, Nat.le_of_ble_eq_true rfl, rfl, rfl⟩ rfl rfl (Nat.le_of_ble_eq_true rfl) hl.1 ⟨Nat.le_refl _, Nat.le_refl _⟩ dL_law_382 (fun v G1 H locs hM2 hP hS => ?_)
  refine lv_aload_n hx hb dL_law_385 rfl (lv_at hl 2 rfl) ?_
  refine kscr (k := 1) hx hb hX hbl hbA hS (by omega) hL hs (n := 1) (by decide) dL_law_386 dL_law_387 dL_law_388 dL_law_389 dL_law_390 ?_
  refine kscr (k := 2) hx hb hX hbl hbA hS (by omega) hL hs (n := 2) (by decide) dL_law_391 dL_law_392 dL_law_393 dL_law_394 dL_law_395 ?_
  refine kscr (k := 3) hx hb hX hbl hbA hS (by omega) hL hs (n := 3) (by decide) dL_law_396 dL_law_397 dL_law_398 dL_law_399 dL_law_400 ?_
  refine kcVA X hP hS hA hM2 oJ v_L_52 ⟨Nat.le_of_ble_eq_true rfl, Nat.le_of_ble_eq_true rfl, rfl, rfl⟩ rfl rfl (Nat.le_of_ble_eq_true rfl) hl.1 ⟨Nat.le_refl _, Nat.le_refl _⟩ dL_law_401 (fun w G2 H locs hR2 hP hS => ?_)
  refine lv_icmp_eq (tgt := 720) hx hb dL_law_404 (by decide) (fun _ => ?_) (fun z => ?_)
  · exact kk _ _ _ hR2.2 hP hS
  · exact absurd hR2.1.symm z
set_option maxHeartbeats 4000000 in
set_option maxRecDepth 100000 in
theorem lc_commit (l : Launch) (X : kC p s m c code 4 args RL D τ) (hX : va_X b L xs s s.heap) (hbl : b < s.heap.size) (hbA : ¬ A b) (hI : kInj ad) (hA : ∀ q, kAd ad q → A q) (hR : REL G) (hP : va_P D vwCl (kW τ ad G) H) (hS : va_S A s.heap H locs) (hi : i + 4 ≤ L) (hL : L ≤ 2048) (hl : lv_has ls 4 [(0, .ref b), (1, .ref (ad 7)), (2, .ref (ad 0)), (3, .int (nI i))])
    (kk : ∀ (G : Nat → Nat → Int32) (H : Heap) (locs : List Loc), REL G → va_P D vwCl (kW τ ad G) H → va_S A s.heap H locs → W p l e room_1 s m args below meth c H locs 600000 7302250 Q (F0 m 720 ls [])) : W p l e room_1 s m args below meth c H locs 600000 7302250 Q (F0 m 409 ls []) := by
  have hx := X.1
  have hb := X.2.1
  have hs : lv_has ls 4 [(0, .ref b), (3, .int (nI i))] := lv_sub hl [0, 3] rfl
  refine lv_aload_n hx hb dL_law_409 rfl (lv_at hl 1 rfl) ?_
  refine kscr (k := 1) hx hb hX hbl hbA hS (by omega) hL hs (n := 1) (by decide) dL_law_410 dL_law_411 dL_law_412 dL_law_413 dL_law_414 ?_
  refine kcVA X hP hS hA (lw_commit l hI hR) oX v_L_53 ⟨Nat.le_of_ble_eq_true rfl, Nat.le_of_ble_eq_true rfl, rfl, rfl⟩ rfl rfl (Nat.le_of_ble_eq_true rfl) hl.1 ⟨Nat.le_refl _, Nat.le_refl _⟩ dL_law_415 (fun v G1 H locs hM2 hP hS => ?_)
  refine lv_aload_n hx hb dL_law_418 rfl (lv_at hl 2 rfl) ?_
  refine kscr (k := 1) hx hb hX hbl hbA hS (by omega) hL hs (n := 1) (by decide) dL_law_419 dL_law_420 dL_law_421 dL_law_422 dL_law_423 ?_
  refine kcVA X hP hS hA hM2 oJ v_L_56 ⟨Nat.le_of_ble_eq_true rfl, Nat.le_of_ble_eq_true rfl, rfl, rfl⟩ rfl rfl (Nat.le_of_ble_eq_true rfl) hl.1 ⟨Nat.le_refl _, Nat.le_refl _⟩ dL_law_424 (fun w G2 H locs hR2 hP hS => ?_)
  refine lv_icmp_eq (tgt := 720) hx hb dL_law_427 (by decide) (fun _ => ?_) (fun z => ?_)
  · exact kk _ _ _ hR2.2 hP hS
  · exact absurd hR2.1.symm z
set_option maxHeartbeats 4000000 in
set_option maxRecDepth 100000 in
theorem lc_type (l : Launch) (X : kC p s m c code 4 args RL D τ) (hX : va_X b L xs s s.heap) (hbl : b < s.heap.size) (hbA : ¬ A b) (hI : kInj ad) (hA : ∀ q, kAd ad q → A q) (hR : REL G) (hP : va_P D vwCl (kW τ ad G) H) (hS : va_S A s.heap H locs) (hi : i + 4 ≤ L) (hL : L ≤ 2048) (hl : lv_has ls 4 [(0, .ref b), (1, .ref (ad 7)), (2, .ref (ad 0)), (3, .int (nI i))])
    (kk : ∀ (G : Nat → Nat → Int32) (H : Heap) (locs : List Loc), REL G → va_P D vwCl (kW τ ad G) H → va_S A s.heap H locs → W p l e room_1 s m args below meth c H locs 600000 7302250 Q (F0 m 720 ls [])) : W p l e room_1 s m args below meth c H locs 600000 7302250 Q (F0 m 432 ls []) := by
  have hx := X.1
  have hb := X.2.1
  have hs : lv_has ls 4 [(0, .ref b), (3, .int (nI i))] := lv_sub hl [0, 3] rfl
  refine lv_aload_n hx hb dL_law_432 rfl (lv_at hl 1 rfl) ?_
  refine kscr (k := 1) hx hb hX hbl hbA hS (by omega) hL hs (n := 1) (by decide) dL_law_433 dL_law_434 dL_law_435 dL_law_436 dL_law_437 ?_
  obtain ⟨q, hq, eq⟩ := i2c_N (xs (i + 1))
  refine lv_i2c (v := nI q) hx hb dL_law_438 eq ?_
  refine kcVA X hP hS hA (lw_type l hI hR hq) oX v_L_57 ⟨Nat.le_of_ble_eq_true rfl, Nat.le_of_ble_eq_true rfl, rfl, rfl⟩ rfl rfl (Nat.le_of_ble_eq_true rfl) hl.1 ⟨Nat.le_refl _, Nat.le_refl _⟩ dL_law_439 (fun v G1 H locs hM2 hP hS => ?_)
  refine lv_aload_n hx hb dL_law_442 rfl (lv_at hl 2 rfl) ?_
  refine kscr (k := 1) hx hb hX hbl hbA hS (by omega) hL hs (n := 1) (by decide) dL_law_443 dL_law_444 dL_law_445 dL_law_446 dL_law_447 ?_
  refine lv_i2c (v := nI q) hx hb dL_law_448 eq ?_
  refine kcVA X hP hS hA hM2 oJ v_L_61 ⟨Nat.le_of_ble_eq_true rfl, Nat.le_of_ble_eq_true rfl, rfl, rfl⟩ rfl rfl (Nat.le_of_ble_eq_true rfl) hl.1 ⟨Nat.le_refl _, Nat.le_refl _⟩ dL_law_449 (fun w G2 H locs hR2 hP hS => ?_)
  refine lv_icmp_eq (tgt := 720) hx hb dL_law_452 (by decide) (fun _ => ?_) (fun z => ?_)
  · exact kk _ _ _ hR2.2 hP hS
  · exact absurd hR2.1.symm z
set_option maxHeartbeats 4000000 in
set_option maxRecDepth 100000 in
theorem lc_clearText (l : Launch) (X : kC p s m c code 4 args RL D τ) (hX : va_X b L xs s s.heap) (hbl : b < s.heap.size) (hbA : ¬ A b) (hI : kInj ad) (hA : ∀ q, kAd ad q → A q) (hR : REL G) (hP : va_P D vwCl (kW τ ad G) H) (hS : va_S A s.heap H locs) (hi : i + 4 ≤ L) (hL : L ≤ 2048) (hl : lv_has ls 4 [(0, .ref b), (1, .ref (ad 7)), (2, .ref (ad 0)), (3, .int (nI i))])
    (kk : ∀ (G : Nat → Nat → Int32) (H : Heap) (locs : List Loc), REL G → va_P D vwCl (kW τ ad G) H → va_S A s.heap H locs → W p l e room_1 s m args below meth c H locs 600000 7302250 Q (F0 m 720 ls [])) : W p l e room_1 s m args below meth c H locs 600000 7302250 Q (F0 m 457 ls []) := by
  have hx := X.1
  have hb := X.2.1
  have hs : lv_has ls 4 [(0, .ref b), (3, .int (nI i))] := lv_sub hl [0, 3] rfl
  refine lv_aload_n hx hb dL_law_457 rfl (lv_at hl 1 rfl) ?_
  refine kcVA X hP hS hA (lw_clearText l hI hR) oX v_L_62 ⟨Nat.le_of_ble_eq_true rfl, Nat.le_of_ble_eq_true rfl, rfl, rfl⟩ rfl rfl (Nat.le_of_ble_eq_true rfl) hl.1 ⟨Nat.le_refl _, Nat.le_refl _⟩ dL_law_458 (fun v G1 H locs hM2 hP hS => ?_)
  refine lv_aload_n hx hb dL_law_461 rfl (lv_at hl 2 rfl) ?_
  refine kcVA X hP hS hA hM2 oJ v_L_66 ⟨Nat.le_of_ble_eq_true rfl, Nat.le_of_ble_eq_true rfl, rfl, rfl⟩ rfl rfl (Nat.le_of_ble_eq_true rfl) hl.1 ⟨Nat.le_refl _, Nat.le_refl _⟩ dL_law_462 (fun w G2 H locs hR2 hP hS => ?_)
  refine lv_icmp_eq (tgt := 720) hx hb dL_law_465 (by decide) (fun _ => ?_) (fun z => ?_)
  · exact kk _ _ _ hR2.2 hP hS
  · exact absurd hR2.1.symm z
set_option maxHeartbeats 4000000 in
set_option maxRecDepth 100000 in
theorem lc_readWrites (l : Launch) (X : kC p s m c code 4 args RL D τ) (hX : va_X b L xs s s.heap) (hbl : b < s.heap.size) (hbA : ¬ A b) (hI : kInj ad) (hA : ∀ q, kAd ad q → A q) (hR : REL G) (hP : va_P D vwCl (kW τ ad G) H) (hS : va_S A s.heap H locs) (hi : i + 4 ≤ L) (hL : L ≤ 2048) (hl : lv_has ls 4 [(0, .ref b), (1, .ref (ad 7)), (2, .ref (ad 0)), (3, .int (nI i))])
    (kk : ∀ (G : Nat → Nat → Int32) (H : Heap) (locs : List Loc), REL G → va_P D vwCl (kW τ ad G) H → va_S A s.heap H locs → W p l e room_1 s m args below meth c H locs 600000 7302250 Q (F0 m 720 ls [])) : W p l e room_1 s m args below meth c H locs 600000 7302250 Q (F0 m 470 ls []) := by
  have hx := X.1
  have hb := X.2.1
  have hs : lv_has ls 4 [(0, .ref b), (3, .int (nI i))] := lv_sub hl [0, 3] rfl
  refine lv_aload_n hx hb dL_law_470 rfl (lv_at hl 1 rfl) ?_
  refine kscr (k := 1) hx hb hX hbl hbA hS (by omega) hL hs (n := 1) (by decide) dL_law_471 dL_law_472 dL_law_473 dL_law_474 dL_law_475 ?_
  refine kcVA X hP hS hA (lw_readWrites l hI hR) oX v_L_67 ⟨Nat.le_of_ble_eq_true rfl, Nat.le_of_ble_eq_true rfl, rfl, rfl⟩ rfl rfl (Nat.le_of_ble_eq_true rfl) hl.1 ⟨Nat.le_refl _, Nat.le_refl _⟩ dL_law_476 (fun v G1 H locs hM2 hP hS => ?_)
  refine lv_aload_n hx hb dL_law_479 rfl (lv_at hl 2 rfl) ?_
  refine kscr (k := 1) hx hb hX hbl hbA hS (by omega) hL hs (n := 1) (by decide) dL_law_480 dL_law_481 dL_law_482 dL_law_483 dL_law_484 ?_
  refine kcVA X hP hS hA hM2 oJ v_L_70 ⟨Nat.le_of_ble_eq_true rfl, Nat.le_of_ble_eq_true rfl, rfl, rfl⟩ rfl rfl (Nat.le_of_ble_eq_true rfl) hl.1 ⟨Nat.le_refl _, Nat.le_refl _⟩ dL_law_485 (fun w G2 H locs hR2 hP hS => ?_)
  refine lv_icmp_eq (tgt := 720) hx hb dL_law_488 (by decide) (fun _ => ?_) (fun z => ?_)
  · exact kk _ _ _ hR2.2 hP hS
  · exact absurd hR2.1.symm z
set_option maxHeartbeats 4000000 in
set_option maxRecDepth 100000 in
theorem lc_undo (l : Launch) (X : kC p s m c code 4 args RL D τ) (hX : va_X b L xs s s.heap) (hbl : b < s.heap.size) (hbA : ¬ A b) (hI : kInj ad) (hA : ∀ q, kAd ad q → A q) (hR : REL G) (hP : va_P D vwCl (kW τ ad G) H) (hS : va_S A s.heap H locs) (hi : i + 4 ≤ L) (hL : L ≤ 2048) (hl : lv_has ls 4 [(0, .ref b), (1, .ref (ad 7)), (2, .ref (ad 0)), (3, .int (nI i))])
    (kk : ∀ (G : Nat → Nat → Int32) (H : Heap) (locs : List Loc), REL G → va_P D vwCl (kW τ ad G) H → va_S A s.heap H locs → W p l e room_1 s m args below meth c H locs 600000 7302250 Q (F0 m 720 ls [])) : W p l e room_1 s m args below meth c H locs 600000 7302250 Q (F0 m 493 ls []) := by
  have hx := X.1
  have hb := X.2.1
  have hs : lv_has ls 4 [(0, .ref b), (3, .int (nI i))] := lv_sub hl [0, 3] rfl
  refine lv_aload_n hx hb dL_law_493 rfl (lv_at hl 1 rfl) ?_
  refine kcVA X hP hS hA (lw_undo l hI hR) oX v_L_71 ⟨Nat.le_of_ble_eq_true rfl, Nat.le_of_ble_eq_true rfl, rfl, rfl⟩ rfl rfl (Nat.le_of_ble_eq_true rfl) hl.1 ⟨Nat.le_refl _, Nat.le_refl _⟩ dL_law_494 (fun v G1 H locs hM2 hP hS => ?_)
  refine lv_aload_n hx hb dL_law_497 rfl (lv_at hl 2 rfl) ?_
  refine kcVA X hP hS hA hM2 oJ v_L_74 ⟨Nat.le_of_ble_eq_true rfl, Nat.le_of_ble_eq_true rfl, rfl, rfl⟩ rfl rfl (Nat.le_of_ble_eq_true rfl) hl.1 ⟨Nat.le_refl _, Nat.le_refl _⟩ dL_law_498 (fun w G2 H locs hR2 hP hS => ?_)
  refine lv_icmp_eq (tgt := 720) hx hb dL_law_501 (by decide) (fun _ => ?_) (fun z => ?_)
  · exact kk _ _ _ hR2.2 hP hS
  · exact absurd hR2.1.symm z
set_option maxHeartbeats 4000000 in
set_option maxRecDepth 100000 in
theorem lc_keep (l : Launch) (X : kC p s m c code 4 args RL D τ) (hX : va_X b L xs s s.heap) (hbl : b < s.heap.size) (hbA : ¬ A b) (hI : kInj ad) (hA : ∀ q, kAd ad q → A q) (hR : REL G) (hP : va_P D vwCl (kW τ ad G) H) (hS : va_S A s.heap H locs) (hi : i + 4 ≤ L) (hL : L ≤ 2048) (hl : lv_has ls 4 [(0, .ref b), (1, .ref (ad 7)), (2, .ref (ad 0)), (3, .int (nI i))])
    (kk : ∀ (G : Nat → Nat → Int32) (H : Heap) (locs : List Loc), REL G → va_P D vwCl (kW τ ad G) H → va_S A s.heap H locs → W p l e room_1 s m args below meth c H locs 600000 7302250 Q (F0 m 720 ls [])) : W p l e room_1 s m args below meth c H locs 600000 7302250 Q (F0 m 506 ls []) := by
  have hx := X.1
  have hb := X.2.1
  have hs : lv_has ls 4 [(0, .ref b), (3, .int (nI i))] := lv_sub hl [0, 3] rfl
  refine lv_aload_n hx hb dL_law_506 rfl (lv_at hl 1 rfl) ?_
  refine kcVA X hP hS hA (lw_keep l hI hR) oX v_L_75 ⟨Nat.le_of_ble_eq_true rfl, Nat.le_of_ble_eq_true rfl, rfl, rfl⟩ rfl rfl (Nat.le_of_ble_eq_true rfl) hl.1 ⟨Nat.le_refl _, Nat.le_refl _⟩ dL_law_507 (fun v G1 H locs hM2 hP hS => ?_)
  refine lv_aload_n hx hb dL_law_510 rfl (lv_at hl 2 rfl) ?_
  refine kcVA X hP hS hA hM2 oJ v_L_78 ⟨Nat.le_of_ble_eq_true rfl, Nat.le_of_ble_eq_true rfl, rfl, rfl⟩ rfl rfl (Nat.le_of_ble_eq_true rfl) hl.1 ⟨Nat.le_refl _, Nat.le_refl _⟩ dL_law_511 (fun w G2 H locs hR2 hP hS => ?_)
  refine lv_icmp_eq (tgt := 720) hx hb dL_law_514 (by decide) (fun _ => ?_) (fun z => ?_)
  · exact kk _ _ _ hR2.2 hP hS
  · exact absurd hR2.1.symm z
set_option maxHeartbeats 4000000 in
set_option maxRecDepth 100000 in
theorem lc_restore (l : Launch) (X : kC p s m c code 4 args RL D τ) (hX : va_X b L xs s s.heap) (hbl : b < s.heap.size) (hbA : ¬ A b) (hI : kInj ad) (hA : ∀ q, kAd ad q → A q) (hR : REL G) (hP : va_P D vwCl (kW τ ad G) H) (hS : va_S A s.heap H locs) (hi : i + 4 ≤ L) (hL : L ≤ 2048) (hl : lv_has ls 4 [(0, .ref b), (1, .ref (ad 7)), (2, .ref (ad 0)), (3, .int (nI i))])
    (kk : ∀ (G : Nat → Nat → Int32) (H : Heap) (locs : List Loc), REL G → va_P D vwCl (kW τ ad G) H → va_S A s.heap H locs → W p l e room_1 s m args below meth c H locs 600000 7302250 Q (F0 m 720 ls [])) : W p l e room_1 s m args below meth c H locs 600000 7302250 Q (F0 m 519 ls []) := by
  have hx := X.1
  have hb := X.2.1
  have hs : lv_has ls 4 [(0, .ref b), (3, .int (nI i))] := lv_sub hl [0, 3] rfl
  refine lv_aload_n hx hb dL_law_519 rfl (lv_at hl 1 rfl) ?_
  refine kcVA X hP hS hA (lw_restore l hI hR) oX v_L_79 ⟨Nat.le_of_ble_eq_true rfl, Nat.le_of_ble_eq_true rfl, rfl, rfl⟩ rfl rfl (Nat.le_of_ble_eq_true rfl) hl.1 ⟨Nat.le_refl _, Nat.le_refl _⟩ dL_law_520 (fun v G1 H locs hM2 hP hS => ?_)
  refine lv_aload_n hx hb dL_law_523 rfl (lv_at hl 2 rfl) ?_
  refine kcVA X hP hS hA hM2 oJ v_L_82 ⟨Nat.le_of_ble_eq_true rfl, Nat.le_of_ble_eq_true rfl, rfl, rfl⟩ rfl rfl (Nat.le_of_ble_eq_true rfl) hl.1 ⟨Nat.le_refl _, Nat.le_refl _⟩ dL_law_524 (fun w G2 H locs hR2 hP hS => ?_)
  refine lv_icmp_eq (tgt := 720) hx hb dL_law_527 (by decide) (fun _ => ?_) (fun z => ?_)
  · exact kk _ _ _ hR2.2 hP hS
  · exact absurd hR2.1.symm z
set_option maxHeartbeats 4000000 in
set_option maxRecDepth 100000 in
theorem lc_cell (l : Launch) (X : kC p s m c code 4 args RL D τ) (hX : va_X b L xs s s.heap) (hbl : b < s.heap.size) (hbA : ¬ A b) (hI : kInj ad) (hA : ∀ q, kAd ad q → A q) (hR : REL G) (hP : va_P D vwCl (kW τ ad G) H) (hS : va_S A s.heap H locs) (hi : i + 4 ≤ L) (hL : L ≤ 2048) (hl : lv_has ls 4 [(0, .ref b), (1, .ref (ad 7)), (2, .ref (ad 0)), (3, .int (nI i))])
    (kk : ∀ (G : Nat → Nat → Int32) (H : Heap) (locs : List Loc), REL G → va_P D vwCl (kW τ ad G) H → va_S A s.heap H locs → W p l e room_1 s m args below meth c H locs 600000 7302250 Q (F0 m 720 ls [])) : W p l e room_1 s m args below meth c H locs 600000 7302250 Q (F0 m 532 ls []) := by
  have hx := X.1
  have hb := X.2.1
  have hs : lv_has ls 4 [(0, .ref b), (3, .int (nI i))] := lv_sub hl [0, 3] rfl
  refine lv_aload_n hx hb dL_law_532 rfl (lv_at hl 1 rfl) ?_
  refine kscr (k := 1) hx hb hX hbl hbA hS (by omega) hL hs (n := 1) (by decide) dL_law_533 dL_law_534 dL_law_535 dL_law_536 dL_law_537 ?_
  refine kscr (k := 2) hx hb hX hbl hbA hS (by omega) hL hs (n := 2) (by decide) dL_law_538 dL_law_539 dL_law_540 dL_law_541 dL_law_542 ?_
  refine kcVA X hP hS hA (lw_cell l hI hR) oX v_L_83 ⟨Nat.le_of_ble_eq_true rfl, Nat.le_of_ble_eq_true rfl, rfl, rfl⟩ rfl rfl (Nat.le_of_ble_eq_true rfl) hl.1 ⟨Nat.le_refl _, Nat.le_refl _⟩ dL_law_543 (fun v G1 H locs hM2 hP hS => ?_)
  refine lv_aload_n hx hb dL_law_546 rfl (lv_at hl 2 rfl) ?_
  refine kscr (k := 1) hx hb hX hbl hbA hS (by omega) hL hs (n := 1) (by decide) dL_law_547 dL_law_548 dL_law_549 dL_law_550 dL_law_551 ?_
  refine kscr (k := 2) hx hb hX hbl hbA hS (by omega) hL hs (n := 2) (by decide) dL_law_552 dL_law_553 dL_law_554 dL_law_555 dL_law_556 ?_
  refine kcVA X hP hS hA hM2 oJ v_L_86 ⟨Nat.le_of_ble_eq_true rfl, Nat.le_of_ble_eq_true rfl, rfl, rfl⟩ rfl rfl (Nat.le_of_ble_eq_true rfl) hl.1 ⟨Nat.le_refl _, Nat.le_refl _⟩ dL_law_557 (fun w G2 H locs hR2 hP hS => ?_)
  refine lv_icmp_eq (tgt := 720) hx hb dL_law_560 (by decide) (fun _ => ?_) (fun z => ?_)
  · exact kk _ _ _ hR2.2 hP hS
  · exact absurd hR2.1.symm z
set_option maxHeartbeats 4000000 in
set_option maxRecDepth 100000 in
theorem lc_version (l : Launch) (X : kC p s m c code 4 args RL D τ) (hX : va_X b L xs s s.heap) (hbl : b < s.heap.size) (hbA : ¬ A b) (hI : kInj ad) (hA : ∀ q, kAd ad q → A q) (hR : REL G) (hP : va_P D vwCl (kW τ ad G) H) (hS : va_S A s.heap H locs) (hi : i + 4 ≤ L) (hL : L ≤ 2048) (hl : lv_has ls 4 [(0, .ref b), (1, .ref (ad 7)), (2, .ref (ad 0)), (3, .int (nI i))])
    (kk : ∀ (G : Nat → Nat → Int32) (H : Heap) (locs : List Loc), REL G → va_P D vwCl (kW τ ad G) H → va_S A s.heap H locs → W p l e room_1 s m args below meth c H locs 600000 7302250 Q (F0 m 720 ls [])) : W p l e room_1 s m args below meth c H locs 600000 7302250 Q (F0 m 565 ls []) := by
  have hx := X.1
  have hb := X.2.1
  have hs : lv_has ls 4 [(0, .ref b), (3, .int (nI i))] := lv_sub hl [0, 3] rfl
  refine lv_aload_n hx hb dL_law_565 rfl (lv_at hl 1 rfl) ?_
  refine kscr (k := 1) hx hb hX hbl hbA hS (by omega) hL hs (n := 1) (by decide) dL_law_566 dL_law_567 dL_law_568 dL_law_569 dL_law_570 ?_
  refine kscr (k := 2) hx hb hX hbl hbA hS (by omega) hL hs (n := 2) (by decide) dL_law_571 dL_law_572 dL_law_573 dL_law_574 dL_law_575 ?_
  refine kscr (k := 3) hx hb hX hbl hbA hS (by omega) hL hs (n := 3) (by decide) dL_law_576 dL_law_577 dL_law_578 dL_law_579 dL_law_580 ?_
  refine kcVA X hP hS hA (lw_version l hI hR) oX v_L_87 ⟨Nat.le_of_ble_eq_true rfl, Nat.le_of_ble_eq_true rfl, rfl, rfl⟩ rfl rfl (Nat.le_of_ble_eq_true rfl) hl.1 ⟨Nat.le_refl _, Nat.le_refl _⟩ dL_law_581 (fun v G1 H locs hM2 hP hS => ?_)
  refine lv_aload_n hx hb dL_law_584 rfl (lv_at hl 2 rfl) ?_
  refine kscr (k := 1) hx hb hX hbl hbA hS (by omega) hL hs (n := 1) (by decide) dL_law_585 dL_law_586 dL_law_587 dL_law_588 dL_law_589 ?_
  refine kscr (k := 2) hx hb hX hbl hbA hS (by omega) hL hs (n := 2) (by decide) dL_law_590 dL_law_591 dL_law_592 dL_law_593 dL_law_594 ?_
  refine kscr (k := 3) hx hb hX hbl hbA hS (by omega) hL hs (n := 3) (by decide) dL_law_595 dL_law_596 dL_law_597 dL_law_598 dL_law_599 ?_
  refine kcVA X hP hS hA hM2 oJ v_L_90 ⟨Nat.le_of_ble_eq_true rfl, Nat.le_of_ble_eq_true rfl, rfl, rfl⟩ rfl rfl (Nat.le_of_ble_eq_true rfl) hl.1 ⟨Nat.le_refl _, Nat.le_refl _⟩ dL_law_600 (fun w G2 H locs hR2 hP hS => ?_)
  refine lv_icmp_eq (tgt := 720) hx hb dL_law_603 (by decide) (fun _ => ?_) (fun z => ?_)
  · exact kk _ _ _ hR2.2 hP hS
  · exact absurd hR2.1.symm z
set_option maxHeartbeats 4000000 in
set_option maxRecDepth 100000 in
theorem lc_reader (l : Launch) (X : kC p s m c code 4 args RL D τ) (hX : va_X b L xs s s.heap) (hbl : b < s.heap.size) (hbA : ¬ A b) (hI : kInj ad) (hA : ∀ q, kAd ad q → A q) (hR : REL G) (hP : va_P D vwCl (kW τ ad G) H) (hS : va_S A s.heap H locs) (hi : i + 4 ≤ L) (hL : L ≤ 2048) (hl : lv_has ls 4 [(0, .ref b), (1, .ref (ad 7)), (2, .ref (ad 0)), (3, .int (nI i))])
    (kk : ∀ (G : Nat → Nat → Int32) (H : Heap) (locs : List Loc), REL G → va_P D vwCl (kW τ ad G) H → va_S A s.heap H locs → W p l e room_1 s m args below meth c H locs 600000 7302250 Q (F0 m 720 ls [])) : W p l e room_1 s m args below meth c H locs 600000 7302250 Q (F0 m 608 ls []) := by
  have hx := X.1
  have hb := X.2.1
  have hs : lv_has ls 4 [(0, .ref b), (3, .int (nI i))] := lv_sub hl [0, 3] rfl
  refine lv_aload_n hx hb dL_law_608 rfl (lv_at hl 1 rfl) ?_
  refine kscr (k := 1) hx hb hX hbl hbA hS (by omega) hL hs (n := 1) (by decide) dL_law_609 dL_law_610 dL_law_611 dL_law_612 dL_law_613 ?_
  refine kscr (k := 2) hx hb hX hbl hbA hS (by omega) hL hs (n := 2) (by decide) dL_law_614 dL_law_615 dL_law_616 dL_law_617 dL_law_618 ?_
  refine kcVA X hP hS hA (lw_reader l hI hR) oX v_L_91 ⟨Nat.le_of_ble_eq_true rfl, Nat.le_of_ble_eq_true rfl, rfl, rfl⟩ rfl rfl (Nat.le_of_ble_eq_true rfl) hl.1 ⟨Nat.le_refl _, Nat.le_refl _⟩ dL_law_619 (fun v G1 H locs hM2 hP hS => ?_)
  refine lv_aload_n hx hb dL_law_622 rfl (lv_at hl 2 rfl) ?_
  refine kscr (k := 1) hx hb hX hbl hbA hS (by omega) hL hs (n := 1) (by decide) dL_law_623 dL_law_624 dL_law_625 dL_law_626 dL_law_627 ?_
  refine kscr (k := 2) hx hb hX hbl hbA hS (by omega) hL hs (n := 2) (by decide) dL_law_628 dL_law_629 dL_law_630 dL_law_631 dL_law_632 ?_
  refine kcVA X hP hS hA hM2 oJ v_L_94 ⟨Nat.le_of_ble_eq_true rfl, Nat.le_of_ble_eq_true rfl, rfl, rfl⟩ rfl rfl (Nat.le_of_ble_eq_true rfl) hl.1 ⟨Nat.le_refl _, Nat.le_refl _⟩ dL_law_633 (fun w G2 H locs hR2 hP hS => ?_)
  refine lv_icmp_eq (tgt := 720) hx hb dL_law_636 (by decide) (fun _ => ?_) (fun z => ?_)
  · exact kk _ _ _ hR2.2 hP hS
  · exact absurd hR2.1.symm z
set_option maxHeartbeats 4000000 in
set_option maxRecDepth 100000 in
theorem lc_lasts (l : Launch) (X : kC p s m c code 4 args RL D τ) (hX : va_X b L xs s s.heap) (hbl : b < s.heap.size) (hbA : ¬ A b) (hI : kInj ad) (hA : ∀ q, kAd ad q → A q) (hR : REL G) (hP : va_P D vwCl (kW τ ad G) H) (hS : va_S A s.heap H locs) (hi : i + 4 ≤ L) (hL : L ≤ 2048) (hl : lv_has ls 4 [(0, .ref b), (1, .ref (ad 7)), (2, .ref (ad 0)), (3, .int (nI i))])
    (kk : ∀ (G : Nat → Nat → Int32) (H : Heap) (locs : List Loc), REL G → va_P D vwCl (kW τ ad G) H → va_S A s.heap H locs → W p l e room_1 s m args below meth c H locs 600000 7302250 Q (F0 m 720 ls [])) : W p l e room_1 s m args below meth c H locs 600000 7302250 Q (F0 m 641 ls []) := by
  have hx := X.1
  have hb := X.2.1
  have hs : lv_has ls 4 [(0, .ref b), (3, .int (nI i))] := lv_sub hl [0, 3] rfl
  refine lv_aload_n hx hb dL_law_641 rfl (lv_at hl 1 rfl) ?_
  refine kscr (k := 1) hx hb hX hbl hbA hS (by omega) hL hs (n := 1) (by decide) dL_law_642 dL_law_643 dL_law_644 dL_law_645 dL_law_646 ?_
  refine kcVA X hP hS hA (lw_lasts l hI hR) oX v_L_95 ⟨Nat.le_of_ble_eq_true rfl, Nat.le_of_ble_eq_true rfl, rfl, rfl⟩ rfl rfl (Nat.le_of_ble_eq_true rfl) hl.1 ⟨Nat.le_refl _, Nat.le_refl _⟩ dL_law_647 (fun v G1 H locs hM2 hP hS => ?_)
  refine lv_aload_n hx hb dL_law_650 rfl (lv_at hl 2 rfl) ?_
  refine kscr (k := 1) hx hb hX hbl hbA hS (by omega) hL hs (n := 1) (by decide) dL_law_651 dL_law_652 dL_law_653 dL_law_654 dL_law_655 ?_
  refine kcVA X hP hS hA hM2 oJ v_L_98 ⟨Nat.le_of_ble_eq_true rfl, Nat.le_of_ble_eq_true rfl, rfl, rfl⟩ rfl rfl (Nat.le_of_ble_eq_true rfl) hl.1 ⟨Nat.le_refl _, Nat.le_refl _⟩ dL_law_656 (fun w G2 H locs hR2 hP hS => ?_)
  refine lv_icmp_eq (tgt := 720) hx hb dL_law_659 (by decide) (fun _ => ?_) (fun z => ?_)
  · exact kk _ _ _ hR2.2 hP hS
  · exact absurd hR2.1.symm z
set_option maxHeartbeats 4000000 in
set_option maxRecDepth 100000 in
theorem lc_committed (l : Launch) (X : kC p s m c code 4 args RL D τ) (hX : va_X b L xs s s.heap) (hbl : b < s.heap.size) (hbA : ¬ A b) (hI : kInj ad) (hA : ∀ q, kAd ad q → A q) (hR : REL G) (hP : va_P D vwCl (kW τ ad G) H) (hS : va_S A s.heap H locs) (hi : i + 4 ≤ L) (hL : L ≤ 2048) (hl : lv_has ls 4 [(0, .ref b), (1, .ref (ad 7)), (2, .ref (ad 0)), (3, .int (nI i))])
    (kk : ∀ (G : Nat → Nat → Int32) (H : Heap) (locs : List Loc), REL G → va_P D vwCl (kW τ ad G) H → va_S A s.heap H locs → W p l e room_1 s m args below meth c H locs 600000 7302250 Q (F0 m 720 ls [])) : W p l e room_1 s m args below meth c H locs 600000 7302250 Q (F0 m 664 ls []) := by
  have hx := X.1
  have hb := X.2.1
  have hs : lv_has ls 4 [(0, .ref b), (3, .int (nI i))] := lv_sub hl [0, 3] rfl
  refine lv_aload_n hx hb dL_law_664 rfl (lv_at hl 1 rfl) ?_
  refine kscr (k := 1) hx hb hX hbl hbA hS (by omega) hL hs (n := 1) (by decide) dL_law_665 dL_law_666 dL_law_667 dL_law_668 dL_law_669 ?_
  refine kscr (k := 2) hx hb hX hbl hbA hS (by omega) hL hs (n := 2) (by decide) dL_law_670 dL_law_671 dL_law_672 dL_law_673 dL_law_674 ?_
  refine kcVA X hP hS hA (lw_committed l hI hR) oX v_L_99 ⟨Nat.le_of_ble_eq_true rfl, Nat.le_of_ble_eq_true rfl, rfl, rfl⟩ rfl rfl (Nat.le_of_ble_eq_true rfl) hl.1 ⟨Nat.le_refl _, Nat.le_refl _⟩ dL_law_675 (fun v G1 H locs hM2 hP hS => ?_)
  refine lv_aload_n hx hb dL_law_678 rfl (lv_at hl 2 rfl) ?_
  refine kscr (k := 1) hx hb hX hbl hbA hS (by omega) hL hs (n := 1) (by decide) dL_law_679 dL_law_680 dL_law_681 dL_law_682 dL_law_683 ?_
  refine kscr (k := 2) hx hb hX hbl hbA hS (by omega) hL hs (n := 2) (by decide) dL_law_684 dL_law_685 dL_law_686 dL_law_687 dL_law_688 ?_
  refine kcVA X hP hS hA hM2 oJ v_L_102 ⟨Nat.le_of_ble_eq_true rfl, Nat.le_of_ble_eq_true rfl, rfl, rfl⟩ rfl rfl (Nat.le_of_ble_eq_true rfl) hl.1 ⟨Nat.le_refl _, Nat.le_refl _⟩ dL_law_689 (fun w G2 H locs hR2 hP hS => ?_)
  refine lv_icmp_eq (tgt := 720) hx hb dL_law_692 (by decide) (fun _ => ?_) (fun z => ?_)
  · exact kk _ _ _ hR2.2 hP hS
  · exact absurd hR2.1.symm z
set_option maxHeartbeats 4000000 in
set_option maxRecDepth 100000 in
theorem lc_count (l : Launch) (X : kC p s m c code 4 args RL D τ) (hX : va_X b L xs s s.heap) (hbl : b < s.heap.size) (hbA : ¬ A b) (hI : kInj ad) (hA : ∀ q, kAd ad q → A q) (hR : REL G) (hP : va_P D vwCl (kW τ ad G) H) (hS : va_S A s.heap H locs) (hi : i + 4 ≤ L) (hL : L ≤ 2048) (hl : lv_has ls 4 [(0, .ref b), (1, .ref (ad 7)), (2, .ref (ad 0)), (3, .int (nI i))])
    (kk : ∀ (G : Nat → Nat → Int32) (H : Heap) (locs : List Loc), REL G → va_P D vwCl (kW τ ad G) H → va_S A s.heap H locs → W p l e room_1 s m args below meth c H locs 600000 7302250 Q (F0 m 720 ls [])) : W p l e room_1 s m args below meth c H locs 600000 7302250 Q (F0 m 697 ls []) := by
  have hx := X.1
  have hb := X.2.1
  have hs : lv_has ls 4 [(0, .ref b), (3, .int (nI i))] := lv_sub hl [0, 3] rfl
  refine lv_aload_n hx hb dL_law_697 rfl (lv_at hl 1 rfl) ?_
  refine kscr (k := 1) hx hb hX hbl hbA hS (by omega) hL hs (n := 1) (by decide) dL_law_698 dL_law_699 dL_law_700 dL_law_701 dL_law_702 ?_
  refine kcVA X hP hS hA (lw_count l hI hR) oX v_L_103 ⟨Nat.le_of_ble_eq_true rfl, Nat.le_of_ble_eq_true rfl, rfl, rfl⟩ rfl rfl (Nat.le_of_ble_eq_true rfl) hl.1 ⟨Nat.le_refl _, Nat.le_refl _⟩ dL_law_703 (fun v G1 H locs hM2 hP hS => ?_)
  refine lv_aload_n hx hb dL_law_706 rfl (lv_at hl 2 rfl) ?_
  refine kscr (k := 1) hx hb hX hbl hbA hS (by omega) hL hs (n := 1) (by decide) dL_law_707 dL_law_708 dL_law_709 dL_law_710 dL_law_711 ?_
  refine kcVA X hP hS hA hM2 oJ v_L_106 ⟨Nat.le_of_ble_eq_true rfl, Nat.le_of_ble_eq_true rfl, rfl, rfl⟩ rfl rfl (Nat.le_of_ble_eq_true rfl) hl.1 ⟨Nat.le_refl _, Nat.le_refl _⟩ dL_law_712 (fun w G2 H locs hR2 hP hS => ?_)
  refine lv_icmp_eq (tgt := 720) hx hb dL_law_715 (by decide) (fun _ => ?_) (fun z => ?_)
  · exact kk _ _ _ hR2.2 hP hS
  · exact absurd hR2.1.symm z
end CASES
