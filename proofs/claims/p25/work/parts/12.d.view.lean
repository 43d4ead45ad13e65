set_option maxHeartbeats 4000000 in
set_option maxRecDepth 100000 in
theorem c_L_view (l : Launch) {D : va_G} {τ : Nat → ClassId} {ad : Nat → Nat} (hI : kInj ad) {G : Nat → Nat → Int32} {N : Nat → Int32} {L : Nat} {Hs : Nat → Nat → Int32} (hN : RLN G N L Hs) : kMl l yL_view cL_view 6 { frames := 5, cells := 0, slots := 0, locals := 116 } D τ ad [.ref (ad 7)] G (fun v G' => v = viewF N ∧ G' = G) := by
  refine kMetL (own := RL) (by decide) rfl (Nat.le_of_ble_eq_true rfl) ?_
  intro p9 e9 s9 m9 args9 below9 meth9 c9 Q9 X hx hb hP hS hret ls hl
  have hl : lv_has ls 6 [(0, .ref (ad 7))] := hl
  obtain ⟨n, k, hn2, hn4, hk2, hk4, hnz, hkz, hL4⟩ := rln_n hN
  refine lv_ldc2 (own := RL) (index := 9) (v := 7) hx hb X.2.2.2.1 (X.2.2.2.2.1 _ (kWs_of 337 (by decide +kernel) rfl)) dL_view_0 ?_
  refine klst hx hb dL_view_3 rfl hl (by decide) (kq_0i_1w rfl) (fun ls hl => ?_)
  refine lv_iconst (v := nI 0) hx hb dL_view_4 (by decide) ?_
  refine kist hx hb dL_view_5 rfl hl (by decide) kq_0i1w_3i (fun ls hl => ?_)
  have lp_6 : ∀ (d : Nat) (i1 : Nat) (v1 : Int64) (H : Heap) (locs : List Loc) (ls : Array Slot), (15 - i1) < d → (i1 ≤ 15) → (v1 = itF (fun k v => vF v (aCt N 0 (nI k))) i1 7) → va_P D vwCl (kW τ ad G) H → va_S (kAd ad) s9.heap H locs → lv_has ls 6 [(0, .ref (ad 7)), (1, .long v1), (3, .int (nI i1))] → W p9 l e9 { frames := 5, cells := 0, slots := 0, locals := 116 } s9 m9 args9 below9 meth9 c9 H locs 0 0 Q9 (F0 m9 6 ls []) := by
    intro d
    induction d with
    | zero => exact fun _ _ _ _ _ hd => absurd hd (Nat.not_lt_zero _)
    | succ d ih_6 =>
      intro i1 v1 H locs ls hd iva_0 iva_1 hP hS hl
      refine lv_iload_n hx hb dL_view_6 rfl (lv_at hl 2 rfl) ?_
      refine lv_bipush (v := nI 15) hx hb dL_view_7 (by decide) ?_
      first
        | refine kic_ge (tgt := 31) hx hb dL_view_9 (by decide) (by with_reducible rfl) (by with_reducible rfl) (by omega) (by omega) (fun c_9 => ?_) (fun c_9 => ?_)
        | refine lv_icmp_ge (tgt := 31) hx hb dL_view_9 (by decide) (fun c_9 => ?_) (fun c_9 => ?_)
      · skip
        have e_9 := itF_e iva_1 (show i1 = 15 by omega)
        obtain ⟨X0, hX0, eX0⟩ : ∃ z, v1 = itF (vrV N) 0 z ∧ z = cntV N := ⟨v1, rfl, e_9⟩
        clear e_9
        refine lv_iconst (v := nI 0) hx hb dL_view_31 (by decide) ?_
        refine kist hx hb dL_view_32 rfl hl (by decide) kq_0i1w3i_3i (fun ls hl => ?_)
        have lp_33 : ∀ (d : Nat) (c : Nat) (v2 : Int64) (H : Heap) (locs : List Loc) (ls : Array Slot), (12 - c) < d → (c ≤ 12) → (v2 = itF (vrV N) c X0) → va_P D vwCl (kW τ ad G) H → va_S (kAd ad) s9.heap H locs → lv_has ls 6 [(0, .ref (ad 7)), (1, .long v2), (3, .int (nI c))] → W p9 l e9 { frames := 5, cells := 0, slots := 0, locals := 116 } s9 m9 args9 below9 meth9 c9 H locs 0 0 Q9 (F0 m9 33 ls []) := by
          intro d
          induction d with
          | zero => exact fun _ _ _ _ _ hd => absurd hd (Nat.not_lt_zero _)
          | succ d ih_33 =>
            intro c v2 H locs ls hd ivb_0 ivb_1 hP hS hl
            refine lv_iload_n hx hb dL_view_33 rfl (lv_at hl 2 rfl) ?_
            refine lv_bipush (v := nI 12) hx hb dL_view_34 (by decide) ?_
            first
              | refine kic_ge (tgt := 127) hx hb dL_view_36 (by decide) (by with_reducible rfl) (by with_reducible rfl) (by omega) (by omega) (fun c_36 => ?_) (fun c_36 => ?_)
              | refine lv_icmp_ge (tgt := 127) hx hb dL_view_36 (by decide) (fun c_36 => ?_) (fun c_36 => ?_)
            · skip
              have e_36 := itF_e ivb_1 (show c = 12 by omega)
              rw [eX0] at e_36
              obtain ⟨X2, hX2, eX2⟩ : ∃ z, v2 = itF (rdI N) 0 z ∧ z = celV N := ⟨v2, rfl, e_36⟩
              clear e_36
              refine lv_iconst (v := nI 0) hx hb dL_view_127 (by decide) ?_
              refine kist hx hb dL_view_128 rfl hl (by decide) kq_0i1w3i_3i (fun ls hl => ?_)
              have lp_129 : ∀ (d : Nat) (r : Nat) (v6 : Int64) (H : Heap) (locs : List Loc) (ls : Array Slot), (n - r) < d → (r ≤ n) → (v6 = itF (rdI N) r X2) → va_P D vwCl (kW τ ad G) H → va_S (kAd ad) s9.heap H locs → lv_has ls 6 [(0, .ref (ad 7)), (1, .long v6), (3, .int (nI r))] → W p9 l e9 { frames := 5, cells := 0, slots := 0, locals := 116 } s9 m9 args9 below9 meth9 c9 H locs 0 0 Q9 (F0 m9 129 ls []) := by
                intro d
                induction d with
                | zero => exact fun _ _ _ _ _ hd => absurd hd (Nat.not_lt_zero _)
                | succ d ih_129 =>
                  intro r v6 H locs ls hd ivf_0 ivf_1 hP hS hl
                  refine lv_iload_n hx hb dL_view_129 rfl (lv_at hl 2 rfl) ?_
                  refine lv_aload_n hx hb dL_view_130 rfl (lv_at hl 0 rfl) ?_
                  refine lv_iconst (v := nI 2) hx hb dL_view_131 (by decide) ?_
                  refine kcV X hP hS (ln_count l hI hN (by decide)) oX v_L_13 ⟨Nat.le_of_ble_eq_true rfl, Nat.le_of_ble_eq_true rfl, rfl, rfl⟩ rfl rfl (Nat.le_of_ble_eq_true rfl) hl.1 ⟨Nat.zero_le _, Nat.zero_le _⟩ dL_view_132 (fun r_132 G_132 H locs hR hP hS => ?_)
                  obtain ⟨rfl, hG_132⟩ := hR
                  rw [hG_132] at hP
                  clear hG_132
                  rw [aCt_2, hn2]
                  first
                    | refine kic_ge (tgt := 175) hx hb dL_view_135 (by decide) (by with_reducible rfl) (by with_reducible rfl) (by omega) (by omega) (fun c_135 => ?_) (fun c_135 => ?_)
                    | refine lv_icmp_ge (tgt := 175) hx hb dL_view_135 (by decide) (fun c_135 => ?_) (fun c_135 => ?_)
                  · skip
                    have e_135 := itF_e ivf_1 (show r = n by omega)
                    rw [eX2, ← hnz] at e_135
                    obtain ⟨X3, hX3, eX3⟩ : ∃ z, v6 = itF (cmI N) 0 z ∧ z = rdV N := ⟨v6, rfl, e_135⟩
                    clear e_135
                    refine lv_iconst (v := nI 0) hx hb dL_view_175 (by decide) ?_
                    refine kist hx hb dL_view_176 rfl hl (by decide) kq_0i1w3i_3i (fun ls hl => ?_)
                    have lp_177 : ∀ (d : Nat) (q : Nat) (v8 : Int64) (H : Heap) (locs : List Loc) (ls : Array Slot), (k - q) < d → (q ≤ k) → (v8 = itF (cmI N) q X3) → va_P D vwCl (kW τ ad G) H → va_S (kAd ad) s9.heap H locs → lv_has ls 6 [(0, .ref (ad 7)), (1, .long v8), (3, .int (nI q))] → W p9 l e9 { frames := 5, cells := 0, slots := 0, locals := 116 } s9 m9 args9 below9 meth9 c9 H locs 0 0 Q9 (F0 m9 177 ls []) := by
                      intro d
                      induction d with
                      | zero => exact fun _ _ _ _ _ hd => absurd hd (Nat.not_lt_zero _)
                      | succ d ih_177 =>
                        intro q v8 H locs ls hd ivh_0 ivh_1 hP hS hl
                        refine lv_iload_n hx hb dL_view_177 rfl (lv_at hl 2 rfl) ?_
                        refine lv_aload_n hx hb dL_view_178 rfl (lv_at hl 0 rfl) ?_
                        refine lv_bipush (v := nI 11) hx hb dL_view_179 (by decide) ?_
                        refine kcV X hP hS (ln_count l hI hN (by decide)) oX v_L_13 ⟨Nat.le_of_ble_eq_true rfl, Nat.le_of_ble_eq_true rfl, rfl, rfl⟩ rfl rfl (Nat.le_of_ble_eq_true rfl) hl.1 ⟨Nat.zero_le _, Nat.zero_le _⟩ dL_view_181 (fun r_181 G_181 H locs hR hP hS => ?_)
                        obtain ⟨rfl, hG_181⟩ := hR
                        rw [hG_181] at hP
                        clear hG_181
                        rw [aCt_11, hk2]
                        first
                          | refine kic_ge (tgt := 224) hx hb dL_view_184 (by decide) (by with_reducible rfl) (by with_reducible rfl) (by omega) (by omega) (fun c_184 => ?_) (fun c_184 => ?_)
                          | refine lv_icmp_ge (tgt := 224) hx hb dL_view_184 (by decide) (fun c_184 => ?_) (fun c_184 => ?_)
                        · skip
                          have e_184 := itF_e ivh_1 (show q = k by omega)
                          rw [eX3, ← hkz] at e_184
                          refine lv_lload_n hx hb dL_view_224 rfl (lv_at hl 1 rfl) ?_
                          exact hret _ _ _ _ _ _ (⟨e_184, rfl⟩) hP hS dL_view_225
                        · skip
                          refine lv_iconst (v := nI 0) hx hb dL_view_187 (by decide) ?_
                          refine kistW hx hb dL_view_188 hl (by decide) (kq_0i1w3i_4i rfl) (fun ls hl => ?_)
                          have lp_190 : ∀ (d : Nat) (i9 : Nat) (v9 : Int64) (H : Heap) (locs : List Loc) (ls : Array Slot), (6 - i9) < d → (i9 ≤ 6) → (v9 = itF (fun k v => vF v (aCm N (nI q) (nI k))) i9 v8) → va_P D vwCl (kW τ ad G) H → va_S (kAd ad) s9.heap H locs → lv_has ls 6 [(0, .ref (ad 7)), (1, .long v9), (3, .int (nI q)), (4, .int (nI i9))] → W p9 l e9 { frames := 5, cells := 0, slots := 0, locals := 116 } s9 m9 args9 below9 meth9 c9 H locs 0 0 Q9 (F0 m9 190 ls []) := by
                            intro d
                            induction d with
                            | zero => exact fun _ _ _ _ _ hd => absurd hd (Nat.not_lt_zero _)
                            | succ d ih_190 =>
                              intro i9 v9 H locs ls hd ivi_0 ivi_1 hP hS hl
                              refine lv_iload hx hb dL_view_190 (lv_at hl 3 rfl) ?_
                              refine lv_bipush (v := nI 6) hx hb dL_view_192 (by decide) ?_
                              first
                                | refine kic_ge (tgt := 218) hx hb dL_view_194 (by decide) (by with_reducible rfl) (by with_reducible rfl) (by omega) (by omega) (fun c_194 => ?_) (fun c_194 => ?_)
                                | refine lv_icmp_ge (tgt := 218) hx hb dL_view_194 (by decide) (fun c_194 => ?_) (fun c_194 => ?_)
                              · skip
                                have e_194 := itF_e ivi_1 (show i9 = 6 by omega)
                                refine kinc (q := 2) hx hb dL_view_218 hl rfl (by decide) kq_0i1w3i4i_3i (fun ls hl => ?_)
                                refine lv_goto (tgt := 177) hx hb dL_view_221 (by decide) ?_
                                exact ih_177 _ _ _ _ _ (by omega) (by omega) (itF_s ivh_1 (by rw [e_194]; rfl)) hP hS (lv_sub hl [0,1,2] rfl)
                              · skip
                                refine lv_ldc2 (own := RL) (index := 11) (v := 31) hx hb X.2.2.2.1 (X.2.2.2.2.1 _ (kWs_of 338 (by decide +kernel) rfl)) dL_view_197 ?_
                                refine lv_lload_n hx hb dL_view_200 rfl (lv_at hl 1 rfl) ?_
                                refine lv_lmul hx hb dL_view_201 ?_
                                refine lv_aload_n hx hb dL_view_202 rfl (lv_at hl 0 rfl) ?_
                                refine lv_iload_n hx hb dL_view_203 rfl (lv_at hl 2 rfl) ?_
                                refine lv_iload hx hb dL_view_204 (lv_at hl 3 rfl) ?_
                                refine kcV X hP hS (ln_committed l hI hN) oX v_L_30 ⟨Nat.le_of_ble_eq_true rfl, Nat.le_of_ble_eq_true rfl, rfl, rfl⟩ rfl rfl (Nat.le_of_ble_eq_true rfl) hl.1 ⟨Nat.zero_le _, Nat.zero_le _⟩ dL_view_206 (fun r_206 G_206 H locs hR hP hS => ?_)
                                obtain ⟨rfl, hG_206⟩ := hR
                                rw [hG_206] at hP
                                clear hG_206
                                refine lv_i2l hx hb dL_view_209 rfl ?_
                                refine lv_ladd hx hb dL_view_210 ?_
                                refine klst hx hb dL_view_211 rfl hl (by decide) (kq_0i1w3i4i_1w rfl) (fun ls hl => ?_)
                                refine kinc (q := 3) hx hb dL_view_212 hl rfl (by decide) (kq_0i1w3i4i_4i rfl) (fun ls hl => ?_)
                                refine lv_goto (tgt := 190) hx hb dL_view_215 (by decide) ?_
                                exact ih_190 _ _ _ _ _ (by omega) (by omega) (itF_s ivi_1 rfl) hP hS (lv_sub hl [0,1,2,3] rfl)
                          exact lp_190 _ 0 v8 _ _ _ (Nat.lt_succ_self _) (Nat.zero_le _) (rfl) hP hS (lv_sub hl [0,1,2,3] rfl)
                    exact lp_177 _ 0 v6 _ _ _ (Nat.lt_succ_self _) (Nat.zero_le _) (hX3) hP hS (lv_sub hl [0,1,2] rfl)
                  · skip
                    refine lv_iconst (v := nI 0) hx hb dL_view_138 (by decide) ?_
                    refine kistW hx hb dL_view_139 hl (by decide) (kq_0i1w3i_4i rfl) (fun ls hl => ?_)
                    have lp_141 : ∀ (d : Nat) (i7 : Nat) (v7 : Int64) (H : Heap) (locs : List Loc) (ls : Array Slot), (12 - i7) < d → (i7 ≤ 12) → (v7 = itF (fun k v => vF v (aRd N (nI r) (nI k))) i7 v6) → va_P D vwCl (kW τ ad G) H → va_S (kAd ad) s9.heap H locs → lv_has ls 6 [(0, .ref (ad 7)), (1, .long v7), (3, .int (nI r)), (4, .int (nI i7))] → W p9 l e9 { frames := 5, cells := 0, slots := 0, locals := 116 } s9 m9 args9 below9 meth9 c9 H locs 0 0 Q9 (F0 m9 141 ls []) := by
                      intro d
                      induction d with
                      | zero => exact fun _ _ _ _ _ hd => absurd hd (Nat.not_lt_zero _)
                      | succ d ih_141 =>
                        intro i7 v7 H locs ls hd ivg_0 ivg_1 hP hS hl
                        refine lv_iload hx hb dL_view_141 (lv_at hl 3 rfl) ?_
                        refine lv_bipush (v := nI 12) hx hb dL_view_143 (by decide) ?_
                        first
                          | refine kic_ge (tgt := 169) hx hb dL_view_145 (by decide) (by with_reducible rfl) (by with_reducible rfl) (by omega) (by omega) (fun c_145 => ?_) (fun c_145 => ?_)
                          | refine lv_icmp_ge (tgt := 169) hx hb dL_view_145 (by decide) (fun c_145 => ?_) (fun c_145 => ?_)
                        · skip
                          have e_145 := itF_e ivg_1 (show i7 = 12 by omega)
                          refine kinc (q := 2) hx hb dL_view_169 hl rfl (by decide) kq_0i1w3i4i_3i (fun ls hl => ?_)
                          refine lv_goto (tgt := 129) hx hb dL_view_172 (by decide) ?_
                          exact ih_129 _ _ _ _ _ (by omega) (by omega) (itF_s ivf_1 (by rw [e_145]; rfl)) hP hS (lv_sub hl [0,1,2] rfl)
                        · skip
                          refine lv_ldc2 (own := RL) (index := 11) (v := 31) hx hb X.2.2.2.1 (X.2.2.2.2.1 _ (kWs_of 338 (by decide +kernel) rfl)) dL_view_148 ?_
                          refine lv_lload_n hx hb dL_view_151 rfl (lv_at hl 1 rfl) ?_
                          refine lv_lmul hx hb dL_view_152 ?_
                          refine lv_aload_n hx hb dL_view_153 rfl (lv_at hl 0 rfl) ?_
                          refine lv_iload_n hx hb dL_view_154 rfl (lv_at hl 2 rfl) ?_
                          refine lv_iload hx hb dL_view_155 (lv_at hl 3 rfl) ?_
                          refine kcV X hP hS (ln_reader l hI hN) oX v_L_27 ⟨Nat.le_of_ble_eq_true rfl, Nat.le_of_ble_eq_true rfl, rfl, rfl⟩ rfl rfl (Nat.le_of_ble_eq_true rfl) hl.1 ⟨Nat.zero_le _, Nat.zero_le _⟩ dL_view_157 (fun r_157 G_157 H locs hR hP hS => ?_)
                          obtain ⟨rfl, hG_157⟩ := hR
                          rw [hG_157] at hP
                          clear hG_157
                          refine lv_i2l hx hb dL_view_160 rfl ?_
                          refine lv_ladd hx hb dL_view_161 ?_
                          refine klst hx hb dL_view_162 rfl hl (by decide) (kq_0i1w3i4i_1w rfl) (fun ls hl => ?_)
                          refine kinc (q := 3) hx hb dL_view_163 hl rfl (by decide) (kq_0i1w3i4i_4i rfl) (fun ls hl => ?_)
                          refine lv_goto (tgt := 141) hx hb dL_view_166 (by decide) ?_
                          exact ih_141 _ _ _ _ _ (by omega) (by omega) (itF_s ivg_1 rfl) hP hS (lv_sub hl [0,1,2,3] rfl)
                    exact lp_141 _ 0 v6 _ _ _ (Nat.lt_succ_self _) (Nat.zero_le _) (rfl) hP hS (lv_sub hl [0,1,2,3] rfl)
              exact lp_129 _ 0 v2 _ _ _ (Nat.lt_succ_self _) (Nat.zero_le _) (hX2) hP hS (lv_sub hl [0,1,2] rfl)
            · skip
              have hpc := (rln_P hN c_36).2
              refine lv_iconst (v := nI 0) hx hb dL_view_39 (by decide) ?_
              refine kistW hx hb dL_view_40 hl (by decide) (kq_0i1w3i_4i rfl) (fun ls hl => ?_)
              have lp_42 : ∀ (d : Nat) (i3 : Nat) (v3 : Int64) (H : Heap) (locs : List Loc) (ls : Array Slot), (5 - i3) < d → (i3 ≤ 5) → (v3 = itF (fun k v => vF v (aCl N (nI c) (nI k))) i3 v2) → va_P D vwCl (kW τ ad G) H → va_S (kAd ad) s9.heap H locs → lv_has ls 6 [(0, .ref (ad 7)), (1, .long v3), (3, .int (nI c)), (4, .int (nI i3))] → W p9 l e9 { frames := 5, cells := 0, slots := 0, locals := 116 } s9 m9 args9 below9 meth9 c9 H locs 0 0 Q9 (F0 m9 42 ls []) := by
                intro d
                induction d with
                | zero => exact fun _ _ _ _ _ hd => absurd hd (Nat.not_lt_zero _)
                | succ d ih_42 =>
                  intro i3 v3 H locs ls hd ivc_0 ivc_1 hP hS hl
                  refine lv_iload hx hb dL_view_42 (lv_at hl 3 rfl) ?_
                  refine lv_iconst (v := nI 5) hx hb dL_view_44 (by decide) ?_
                  first
                    | refine kic_ge (tgt := 69) hx hb dL_view_45 (by decide) (by with_reducible rfl) (by with_reducible rfl) (by omega) (by omega) (fun c_45 => ?_) (fun c_45 => ?_)
                    | refine lv_icmp_ge (tgt := 69) hx hb dL_view_45 (by decide) (fun c_45 => ?_) (fun c_45 => ?_)
                  · skip
                    have e_45 := itF_e ivc_1 (show i3 = 5 by omega)
                    obtain ⟨X1, hX1, eX1⟩ : ∃ z, v3 = itF (vrI N c) 0 z ∧ z = clV N c v2 := ⟨v3, rfl, e_45⟩
                    clear e_45
                    refine lv_iconst (v := nI 0) hx hb dL_view_69 (by decide) ?_
                    refine kistW hx hb dL_view_70 hl (by decide) (kq_0i1w3i4i_4i rfl) (fun ls hl => ?_)
                    have lp_72 : ∀ (d : Nat) (p : Nat) (v4 : Int64) (H : Heap) (locs : List Loc) (ls : Array Slot), (pcN N c - p) < d → (p ≤ pcN N c) → (v4 = itF (vrI N c) p X1) → va_P D vwCl (kW τ ad G) H → va_S (kAd ad) s9.heap H locs → lv_has ls 6 [(0, .ref (ad 7)), (1, .long v4), (3, .int (nI c)), (4, .int (nI p))] → W p9 l e9 { frames := 5, cells := 0, slots := 0, locals := 116 } s9 m9 args9 below9 meth9 c9 H locs 0 0 Q9 (F0 m9 72 ls []) := by
                      intro d
                      induction d with
                      | zero => exact fun _ _ _ _ _ hd => absurd hd (Nat.not_lt_zero _)
                      | succ d ih_72 =>
                        intro p v4 H locs ls hd ivd_0 ivd_1 hP hS hl
                        refine lv_iload hx hb dL_view_72 (lv_at hl 3 rfl) ?_
                        refine lv_aload_n hx hb dL_view_74 rfl (lv_at hl 0 rfl) ?_
                        refine lv_iload_n hx hb dL_view_75 rfl (lv_at hl 2 rfl) ?_
                        refine lv_iconst (v := nI 2) hx hb dL_view_76 (by decide) ?_
                        refine kcV X hP hS (ln_cell l hI hN) oX v_L_19 ⟨Nat.le_of_ble_eq_true rfl, Nat.le_of_ble_eq_true rfl, rfl, rfl⟩ rfl rfl (Nat.le_of_ble_eq_true rfl) hl.1 ⟨Nat.zero_le _, Nat.zero_le _⟩ dL_view_77 (fun r_77 G_77 H locs hR hP hS => ?_)
                        obtain ⟨rfl, hG_77⟩ := hR
                        rw [hG_77] at hP
                        clear hG_77
                        rw [(rln_P hN c_36).1]
                        first
                          | refine kic_ge (tgt := 121) hx hb dL_view_80 (by decide) (by with_reducible rfl) (by with_reducible rfl) (by omega) (by omega) (fun c_80 => ?_) (fun c_80 => ?_)
                          | refine lv_icmp_ge (tgt := 121) hx hb dL_view_80 (by decide) (fun c_80 => ?_) (fun c_80 => ?_)
                        · skip
                          have e_80 := itF_e ivd_1 (show p = pcN N c by omega)
                          refine kinc (q := 2) hx hb dL_view_121 hl rfl (by decide) kq_0i1w3i4i_3i (fun ls hl => ?_)
                          refine lv_goto (tgt := 33) hx hb dL_view_124 (by decide) ?_
                          exact ih_33 _ _ _ _ _ (by omega) (by omega) (itF_s ivb_1 (by rw [e_80, eX1]; rfl)) hP hS (lv_sub hl [0,1,2] rfl)
                        · skip
                          refine lv_iconst (v := nI 0) hx hb dL_view_83 (by decide) ?_
                          refine kistW hx hb dL_view_84 hl (by decide) (kq_0i1w3i4i_5i rfl) (fun ls hl => ?_)
                          have lp_86 : ∀ (d : Nat) (i5 : Nat) (v5 : Int64) (H : Heap) (locs : List Loc) (ls : Array Slot), (5 - i5) < d → (i5 ≤ 5) → (v5 = itF (fun k v => vF v (aVr N (nI c) (nI p) (nI k))) i5 v4) → va_P D vwCl (kW τ ad G) H → va_S (kAd ad) s9.heap H locs → lv_has ls 6 [(0, .ref (ad 7)), (1, .long v5), (3, .int (nI c)), (4, .int (nI p)), (5, .int (nI i5))] → W p9 l e9 { frames := 5, cells := 0, slots := 0, locals := 116 } s9 m9 args9 below9 meth9 c9 H locs 0 0 Q9 (F0 m9 86 ls []) := by
                            intro d
                            induction d with
                            | zero => exact fun _ _ _ _ _ hd => absurd hd (Nat.not_lt_zero _)
                            | succ d ih_86 =>
                              intro i5 v5 H locs ls hd ive_0 ive_1 hP hS hl
                              refine lv_iload hx hb dL_view_86 (lv_at hl 4 rfl) ?_
                              refine lv_iconst (v := nI 5) hx hb dL_view_88 (by decide) ?_
                              first
                                | refine kic_ge (tgt := 115) hx hb dL_view_89 (by decide) (by with_reducible rfl) (by with_reducible rfl) (by omega) (by omega) (fun c_89 => ?_) (fun c_89 => ?_)
                                | refine lv_icmp_ge (tgt := 115) hx hb dL_view_89 (by decide) (fun c_89 => ?_) (fun c_89 => ?_)
                              · skip
                                have e_89 := itF_e ive_1 (show i5 = 5 by omega)
                                refine kinc (q := 3) hx hb dL_view_115 hl rfl (by decide) (kq_0i1w3i4i5i_4i rfl) (fun ls hl => ?_)
                                refine lv_goto (tgt := 72) hx hb dL_view_118 (by decide) ?_
                                exact ih_72 _ _ _ _ _ (by omega) (by omega) (itF_s ivd_1 (by rw [e_89]; rfl)) hP hS (lv_sub hl [0,1,2,3] rfl)
                              · skip
                                refine lv_ldc2 (own := RL) (index := 11) (v := 31) hx hb X.2.2.2.1 (X.2.2.2.2.1 _ (kWs_of 338 (by decide +kernel) rfl)) dL_view_92 ?_
                                refine lv_lload_n hx hb dL_view_95 rfl (lv_at hl 1 rfl) ?_
                                refine lv_lmul hx hb dL_view_96 ?_
                                refine lv_aload_n hx hb dL_view_97 rfl (lv_at hl 0 rfl) ?_
                                refine lv_iload_n hx hb dL_view_98 rfl (lv_at hl 2 rfl) ?_
                                refine lv_iload hx hb dL_view_99 (lv_at hl 3 rfl) ?_
                                refine lv_iload hx hb dL_view_101 (lv_at hl 4 rfl) ?_
                                refine kcV X hP hS (ln_version l hI hN) oX v_L_23 ⟨Nat.le_of_ble_eq_true rfl, Nat.le_of_ble_eq_true rfl, rfl, rfl⟩ rfl rfl (Nat.le_of_ble_eq_true rfl) hl.1 ⟨Nat.zero_le _, Nat.zero_le _⟩ dL_view_103 (fun r_103 G_103 H locs hR hP hS => ?_)
                                obtain ⟨rfl, hG_103⟩ := hR
                                rw [hG_103] at hP
                                clear hG_103
                                refine lv_i2l hx hb dL_view_106 rfl ?_
                                refine lv_ladd hx hb dL_view_107 ?_
                                refine klst hx hb dL_view_108 rfl hl (by decide) (kq_0i1w3i4i5i_1w rfl) (fun ls hl => ?_)
                                refine kinc (q := 4) hx hb dL_view_109 hl rfl (by decide) (kq_0i1w3i4i5i_5i rfl) (fun ls hl => ?_)
                                refine lv_goto (tgt := 86) hx hb dL_view_112 (by decide) ?_
                                exact ih_86 _ _ _ _ _ (by omega) (by omega) (itF_s ive_1 rfl) hP hS (lv_sub hl [0,1,2,3,4] rfl)
                          exact lp_86 _ 0 v4 _ _ _ (Nat.lt_succ_self _) (Nat.zero_le _) (rfl) hP hS (lv_sub hl [0,1,2,3,4] rfl)
                    exact lp_72 _ 0 v3 _ _ _ (Nat.lt_succ_self _) (Nat.zero_le _) (hX1) hP hS (lv_sub hl [0,1,2,3] rfl)
                  · skip
                    refine lv_ldc2 (own := RL) (index := 11) (v := 31) hx hb X.2.2.2.1 (X.2.2.2.2.1 _ (kWs_of 338 (by decide +kernel) rfl)) dL_view_48 ?_
                    refine lv_lload_n hx hb dL_view_51 rfl (lv_at hl 1 rfl) ?_
                    refine lv_lmul hx hb dL_view_52 ?_
                    refine lv_aload_n hx hb dL_view_53 rfl (lv_at hl 0 rfl) ?_
                    refine lv_iload_n hx hb dL_view_54 rfl (lv_at hl 2 rfl) ?_
                    refine lv_iload hx hb dL_view_55 (lv_at hl 3 rfl) ?_
                    refine kcV X hP hS (ln_cell l hI hN) oX v_L_19 ⟨Nat.le_of_ble_eq_true rfl, Nat.le_of_ble_eq_true rfl, rfl, rfl⟩ rfl rfl (Nat.le_of_ble_eq_true rfl) hl.1 ⟨Nat.zero_le _, Nat.zero_le _⟩ dL_view_57 (fun r_57 G_57 H locs hR hP hS => ?_)
                    obtain ⟨rfl, hG_57⟩ := hR
                    rw [hG_57] at hP
                    clear hG_57
                    refine lv_i2l hx hb dL_view_60 rfl ?_
                    refine lv_ladd hx hb dL_view_61 ?_
                    refine klst hx hb dL_view_62 rfl hl (by decide) (kq_0i1w3i4i_1w rfl) (fun ls hl => ?_)
                    refine kinc (q := 3) hx hb dL_view_63 hl rfl (by decide) (kq_0i1w3i4i_4i rfl) (fun ls hl => ?_)
                    refine lv_goto (tgt := 42) hx hb dL_view_66 (by decide) ?_
                    exact ih_42 _ _ _ _ _ (by omega) (by omega) (itF_s ivc_1 rfl) hP hS (lv_sub hl [0,1,2,3] rfl)
              exact lp_42 _ 0 v2 _ _ _ (Nat.lt_succ_self _) (Nat.zero_le _) (rfl) hP hS (lv_sub hl [0,1,2,3] rfl)
        exact lp_33 _ 0 v1 _ _ _ (Nat.lt_succ_self _) (Nat.zero_le _) (hX0) hP hS (lv_sub hl [0,1,2] rfl)
      · skip
        have hx15 : ¬ nI i1 = nI 15 := fun z => by have := (nI_eq (by omega) (by omega)).mp z; omega
        have hx16 : ¬ nI i1 = nI 16 := fun z => by have := (nI_eq (by omega) (by omega)).mp z; omega
        refine lv_ldc2 (own := RL) (index := 11) (v := 31) hx hb X.2.2.2.1 (X.2.2.2.2.1 _ (kWs_of 338 (by decide +kernel) rfl)) dL_view_12 ?_
        refine lv_lload_n hx hb dL_view_15 rfl (lv_at hl 1 rfl) ?_
        refine lv_lmul hx hb dL_view_16 ?_
        refine lv_aload_n hx hb dL_view_17 rfl (lv_at hl 0 rfl) ?_
        refine lv_iload_n hx hb dL_view_18 rfl (lv_at hl 2 rfl) ?_
        refine kcV X hP hS (ln_count l hI hN hx16) oX v_L_13 ⟨Nat.le_of_ble_eq_true rfl, Nat.le_of_ble_eq_true rfl, rfl, rfl⟩ rfl rfl (Nat.le_of_ble_eq_true rfl) hl.1 ⟨Nat.zero_le _, Nat.zero_le _⟩ dL_view_19 (fun r_19 G_19 H locs hR hP hS => ?_)
        obtain ⟨rfl, hG_19⟩ := hR
        rw [hG_19] at hP
        clear hG_19
        refine lv_i2l hx hb dL_view_22 rfl ?_
        refine lv_ladd hx hb dL_view_23 ?_
        refine klst hx hb dL_view_24 rfl hl (by decide) (kq_0i1w3i_1w rfl) (fun ls hl => ?_)
        refine kinc (q := 2) hx hb dL_view_25 hl rfl (by decide) kq_0i1w3i_3i (fun ls hl => ?_)
        refine lv_goto (tgt := 6) hx hb dL_view_28 (by decide) ?_
        exact ih_6 _ _ _ _ _ (by omega) (by omega) (itF_s iva_1 (by rw [aCt_L (L := L) (L' := 0) hx15]; rfl)) hP hS (lv_sub hl [0,1,2] rfl)
  exact lp_6 _ 0 7 _ _ _ (Nat.lt_succ_self _) (Nat.zero_le _) (rfl) hP hS (lv_sub hl [0,1,2] rfl)
