/-! The law's loop. -/
set_option maxHeartbeats 4000000 in
set_option maxRecDepth 100000 in
theorem law_loop (l : Launch) {p9 : Program} {e9 : Env} {s9 : State} {m9 : MethodId} {args9 : Array Value} {below9 : List Frame} {meth9 : Method} {c9 : Code} {Q9 : State → Prop} {D : va_G} {τ : Nat → ClassId} {ad : Nat → Nat} {A : Nat → Prop} {b L T : Nat} {xs : Nat → Int32}
    (X : kC p9 s9 m9 c9 code 19 args9 RL D τ) (hX : va_X b L xs s9 s9.heap) (hbl : b < s9.heap.size) (hbA : ¬ A b) (hI : kInj ad) (hA : ∀ q, kAd ad q → A q) (hL : L ≤ 260) (hT : T ≤ 40)
    (hend : ∀ (H : Heap) (locs : List Loc) (ls : Array Slot), va_S A s9.heap H locs → W p9 l e9 room_1 s9 m9 args9 below9 meth9 c9 H locs 600000 7302250 Q9 (F0 m9 344 ls [])) :
    ∀ (nn k put Lh : Nat) (N : Nat → Int32) (Hs G : Nat → Nat → Int32) (H : Heap) (locs : List Loc) (ls : Array Slot), T < k + nn → k ≤ T → put ≤ 9999 * k → RLN G N Lh Hs → INV N (nZ (N 2)) (nZ (N 8)) put → va_P D vwCl (kW τ ad G) H → va_S A s9.heap H locs → lv_has ls 19 [(0, .ref b), (1, .ref (ad 7)), (2, .long (lN put)), (4, .ref (ad 0)), (5, .int (nI T)), (6, .int (nI k))] → W p9 l e9 room_1 s9 m9 args9 below9 meth9 c9 H locs 600000 7302250 Q9 (F0 m9 39 ls []) := by
  have hx := X.1
  have hb := X.2.1
  intro nn
  induction nn with
  | zero => intro k put Lh N Hs G H locs ls h1 h2; exact absurd h1 (by omega)
  | succ nn ih =>
    intro k put Lh N Hs G H locs ls hkn hkT hput9 hN hV hP hS hl
    obtain ⟨n, kk, hn2, hn4, hk2, hk4, hnz, hkz, hL4⟩ := rln_n hN
    obtain ⟨mo, hmo, hmo0⟩ := rln_0 hN
    refine lv_iload hx hb dL_law_39 (lv_at hl 5 rfl) ?_
    refine lv_iload hx hb dL_law_41 (lv_at hl 4 rfl) ?_
    first
      | refine kic_ge (tgt := 344) hx hb dL_law_43 (by decide) (by with_reducible rfl) (by with_reducible rfl) (by omega) (by omega) (fun c_43 => ?_) (fun c_43 => ?_)
      | refine lv_icmp_ge (tgt := 344) hx hb dL_law_43 (by decide) (fun c_43 => ?_) (fun c_43 => ?_)
    · skip
      exact hend _ _ _ hS
    · skip
      refine lv_aload_n hx hb dL_law_46 rfl (lv_at hl 0 rfl) ?_
      refine lv_iconst (v := nI 3) hx hb dL_law_47 (by decide) ?_
      refine lv_iload hx hb dL_law_48 (lv_at hl 5 rfl) ?_
      first
        | refine kmul hx hb dL_law_50 (by with_reducible rfl) (by with_reducible rfl) ?_
        | refine lv_imul hx hb dL_law_50 ?_
      refine kcX X hX hbl hbA hL (k := 3 * k) (by omega) hP hS hA ⟨Nat.le_of_ble_eq_true rfl, Nat.le_of_ble_eq_true rfl⟩ (Nat.le_of_ble_eq_true rfl) hl.1 ⟨Nat.le_of_ble_eq_true rfl, Nat.le_of_ble_eq_true rfl⟩ dL_law_51 (fun H locs hP hS => ?_)
      refine lv_topi (fun x7 _ => ?_)
      refine kistW hx hb dL_law_54 hl (by decide) (kq_0i1i2w4i5i6i_7i rfl) (fun ls hl => ?_)
      refine lv_aload_n hx hb dL_law_56 rfl (lv_at hl 0 rfl) ?_
      refine lv_iconst (v := nI 3) hx hb dL_law_57 (by decide) ?_
      refine lv_iload hx hb dL_law_58 (lv_at hl 5 rfl) ?_
      first
        | refine kmul hx hb dL_law_60 (by with_reducible rfl) (by with_reducible rfl) ?_
        | refine lv_imul hx hb dL_law_60 ?_
      refine lv_iconst (v := nI 1) hx hb dL_law_61 (by decide) ?_
      first
        | refine kadd hx hb dL_law_62 (by with_reducible rfl) (by with_reducible rfl) ?_
        | refine lv_iadd hx hb dL_law_62 ?_
      refine kcX X hX hbl hbA hL (k := 3 * k + 1) (by omega) hP hS hA ⟨Nat.le_of_ble_eq_true rfl, Nat.le_of_ble_eq_true rfl⟩ (Nat.le_of_ble_eq_true rfl) hl.1 ⟨Nat.le_of_ble_eq_true rfl, Nat.le_of_ble_eq_true rfl⟩ dL_law_63 (fun H locs hP hS => ?_)
      refine lv_topi (fun x8 _ => ?_)
      refine kistW hx hb dL_law_66 hl (by decide) (kq_0i1i2w4i5i6i7i_8i rfl) (fun ls hl => ?_)
      refine lv_aload_n hx hb dL_law_68 rfl (lv_at hl 0 rfl) ?_
      refine lv_iconst (v := nI 3) hx hb dL_law_69 (by decide) ?_
      refine lv_iload hx hb dL_law_70 (lv_at hl 5 rfl) ?_
      first
        | refine kmul hx hb dL_law_72 (by with_reducible rfl) (by with_reducible rfl) ?_
        | refine lv_imul hx hb dL_law_72 ?_
      refine lv_iconst (v := nI 2) hx hb dL_law_73 (by decide) ?_
      first
        | refine kadd hx hb dL_law_74 (by with_reducible rfl) (by with_reducible rfl) ?_
        | refine lv_iadd hx hb dL_law_74 ?_
      refine kcX X hX hbl hbA hL (k := 3 * k + 2) (by omega) hP hS hA ⟨Nat.le_of_ble_eq_true rfl, Nat.le_of_ble_eq_true rfl⟩ (Nat.le_of_ble_eq_true rfl) hl.1 ⟨Nat.le_of_ble_eq_true rfl, Nat.le_of_ble_eq_true rfl⟩ dL_law_75 (fun H locs hP hS => ?_)
      refine lv_topi (fun x9 _ => ?_)
      refine kistW hx hb dL_law_78 hl (by decide) (kq_0i1i2w4i5i6i7i8i_9i rfl) (fun ls hl => ?_)
      have j_95 : ∀ (iw : Nat) (H : Heap) (locs : List Loc) (ls : Array Slot), (iw < 16) → va_P D vwCl (kW τ ad G) H → va_S A s9.heap H locs → lv_has ls 19 [(0, .ref b), (1, .ref (ad 7)), (2, .long (lN put)), (4, .ref (ad 0)), (5, .int (nI T)), (6, .int (nI k)), (7, .int x7), (8, .int x8), (9, .int x9)] → W p9 l e9 room_1 s9 m9 args9 below9 meth9 c9 H locs 600000 7302250 Q9 (F0 m9 95 ls [.int (nI iw)]) := by
        intro iw H locs ls jh95_0 hP hS hl
        refine kistW hx hb dL_law_95 hl (by decide) (kq_0i1i2w4i5i6i7i8i9i_10i rfl) (fun ls hl => ?_)
        refine lv_aload_n hx hb dL_law_97 rfl (lv_at hl 1 rfl) ?_
        refine kcSlA X hP hS hA (c_L_view l hI hN) v_L_73 ⟨Nat.le_of_ble_eq_true rfl, Nat.le_of_ble_eq_true rfl, rfl, rfl⟩ rfl rfl (Nat.le_of_ble_eq_true rfl) hl.1 (by exact ⟨Nat.le_of_ble_eq_true rfl, Nat.le_of_ble_eq_true rfl⟩) dL_law_98 (fun r_98 G_98 H locs hR hP hS => ?_)
        obtain ⟨rfl, hG_98⟩ := hR
        rw [hG_98] at hP
        clear hG_98
        refine klstW hx hb dL_law_101 hl (by decide) (kq_0i1i2w4i5i6i7i8i9i10i_11w rfl) (fun ls hl => ?_)
        refine lv_aload_n hx hb dL_law_103 rfl (lv_at hl 1 rfl) ?_
        refine lv_bipush (v := nI 15) hx hb dL_law_104 (by decide) ?_
        refine kcVA X hP hS hA (ln_count l hI hN (by decide)) oX v_L_13 ⟨Nat.le_of_ble_eq_true rfl, Nat.le_of_ble_eq_true rfl, rfl, rfl⟩ rfl rfl (Nat.le_of_ble_eq_true rfl) hl.1 (by exact ⟨Nat.le_of_ble_eq_true rfl, Nat.le_of_ble_eq_true rfl⟩) dL_law_106 (fun r_106 G_106 H locs hR hP hS => ?_)
        obtain ⟨rfl, hG_106⟩ := hR
        rw [hG_106] at hP
        clear hG_106
        rw [aCt_15]
        refine kistW hx hb dL_law_109 hl (by decide) kq_0i1i2w4i5i6i7i8i9i10i11w_13i (fun ls hl => ?_)
        refine lv_aload_n hx hb dL_law_111 rfl (lv_at hl 1 rfl) ?_
        refine lv_iconst (v := nI 0) hx hb dL_law_112 (by decide) ?_
        refine kcVA X hP hS hA (ln_count l hI hN (by decide)) oX v_L_13 ⟨Nat.le_of_ble_eq_true rfl, Nat.le_of_ble_eq_true rfl, rfl, rfl⟩ rfl rfl (Nat.le_of_ble_eq_true rfl) hl.1 (by exact ⟨Nat.le_of_ble_eq_true rfl, Nat.le_of_ble_eq_true rfl⟩) dL_law_113 (fun r_113 G_113 H locs hR hP hS => ?_)
        obtain ⟨rfl, hG_113⟩ := hR
        rw [hG_113] at hP
        clear hG_113
        rw [aCt_0, hmo]
        refine kistW hx hb dL_law_116 hl (by decide) (kq_0i1i2w4i5i6i7i8i9i10i11w13i_14i rfl) (fun ls hl => ?_)
        refine lv_aload_n hx hb dL_law_118 rfl (lv_at hl 1 rfl) ?_
        refine lv_iconst (v := nI 2) hx hb dL_law_119 (by decide) ?_
        refine kcVA X hP hS hA (ln_count l hI hN (by decide)) oX v_L_13 ⟨Nat.le_of_ble_eq_true rfl, Nat.le_of_ble_eq_true rfl, rfl, rfl⟩ rfl rfl (Nat.le_of_ble_eq_true rfl) hl.1 (by exact ⟨Nat.le_of_ble_eq_true rfl, Nat.le_of_ble_eq_true rfl⟩) dL_law_120 (fun r_120 G_120 H locs hR hP hS => ?_)
        obtain ⟨rfl, hG_120⟩ := hR
        rw [hG_120] at hP
        clear hG_120
        rw [aCt_2, hn2]
        refine kistW hx hb dL_law_123 hl (by decide) (kq_0i1i2w4i5i6i7i8i9i10i11w13i14i_15i rfl) (fun ls hl => ?_)
        refine lv_iconst (v := nI 0) hx hb dL_law_125 (by decide) ?_
        refine kistW hx hb dL_law_126 hl (by decide) (kq_0i1i2w4i5i6i7i8i9i10i11w13i14i15i_16i rfl) (fun ls hl => ?_)
        have lp_128 : ∀ (d : Nat) (r : Nat) (G1 : Nat → Nat → Int32) (H : Heap) (locs : List Loc) (ls : Array Slot), (n - r) < d → (r ≤ n) → (∀ q, q ≠ 0 → G1 q = G q) → (∀ q, q < r → G1 0 q = seenF N (nI q)) → va_P D vwCl (kW τ ad G1) H → va_S A s9.heap H locs → lv_has ls 19 [(0, .ref b), (1, .ref (ad 7)), (2, .long (lN put)), (4, .ref (ad 0)), (5, .int (nI T)), (6, .int (nI k)), (7, .int x7), (8, .int x8), (9, .int x9), (10, .int (nI iw)), (11, .long (viewF N)), (13, .int (nI Lh)), (14, .int (nI mo)), (15, .int (nI n)), (16, .int (nI r))] → W p9 l e9 room_1 s9 m9 args9 below9 meth9 c9 H locs 600000 7302250 Q9 (F0 m9 128 ls []) := by
          intro d
          induction d with
          | zero => exact fun _ _ _ _ _ hd => absurd hd (Nat.not_lt_zero _)
          | succ d ih_128 =>
            intro r G1 H locs ls hd ivs_0 ivs_1 ivs_2 hP hS hl
            refine lv_iload hx hb dL_law_128 (lv_at hl 14 rfl) ?_
            refine lv_iload hx hb dL_law_130 (lv_at hl 13 rfl) ?_
            first
              | refine kic_ge (tgt := 152) hx hb dL_law_132 (by decide) (by with_reducible rfl) (by with_reducible rfl) (by omega) (by omega) (fun c_132 => ?_) (fun c_132 => ?_)
              | refine lv_icmp_ge (tgt := 152) hx hb dL_law_132 (by decide) (fun c_132 => ?_) (fun c_132 => ?_)
            · skip
              have hN1 : RLN G1 N Lh Hs := rln_g hN ivs_1
              have hseen : ∀ q, q < n → G1 0 q = seenF N (nI q) := fun q hq => ivs_2 q (by omega)
              have j_268 : ∀ (N2 : Nat → Int32) (L2 put2 : Nat) (Hs2 : Nat → Nat → Int32) (G2 : Nat → Nat → Int32) (H : Heap) (locs : List Loc) (ls : Array Slot), (RLN G2 N2 L2 Hs2) → (INV N2 (nZ (N2 2)) (nZ (N2 8)) put2) → (put2 ≤ 9999 * (k + 1)) → (G2 0 = G1 0) → (n ≤ nZ (N2 2)) → (∀ r, r < n → ¬ seenF N2 (nI r) < 0 → seenF N2 (nI r) = seenF N (nI r)) → va_P D vwCl (kW τ ad G2) H → va_S A s9.heap H locs → lv_has ls 19 [(0, .ref b), (1, .ref (ad 7)), (2, .long (lN put2)), (4, .ref (ad 0)), (5, .int (nI T)), (6, .int (nI k)), (15, .int (nI n))] → W p9 l e9 room_1 s9 m9 args9 below9 meth9 c9 H locs 600000 7302250 Q9 (F0 m9 268 ls []) := by
                intro N2 L2 put2 Hs2 G2 H locs ls jh268_0 jh268_1 jh268_2 jh268_3 jh268_4 jh268_5 hP hS hl
                refine lv_iconst (v := nI 0) hx hb dL_law_268 (by decide) ?_
                refine kistW hx hb dL_law_269 hl (by decide) kq_0i1i2w4i5i6i15i_17i (fun ls hl => ?_)
                have lp_271 : ∀ (d : Nat) (r : Nat) (H : Heap) (locs : List Loc) (ls : Array Slot), (n - r) < d → (r ≤ n) → va_P D vwCl (kW τ ad G2) H → va_S A s9.heap H locs → lv_has ls 19 [(0, .ref b), (1, .ref (ad 7)), (2, .long (lN put2)), (4, .ref (ad 0)), (5, .int (nI T)), (6, .int (nI k)), (15, .int (nI n)), (17, .int (nI r))] → W p9 l e9 room_1 s9 m9 args9 below9 meth9 c9 H locs 600000 7302250 Q9 (F0 m9 271 ls []) := by
                  intro d
                  induction d with
                  | zero => exact fun _ _ _ _ hd => absurd hd (Nat.not_lt_zero _)
                  | succ d ih_271 =>
                    intro r H locs ls hd ivt_0 hP hS hl
                    refine lv_iload hx hb dL_law_271 (lv_at hl 7 rfl) ?_
                    refine lv_iload hx hb dL_law_273 (lv_at hl 6 rfl) ?_
                    first
                      | refine kic_ge (tgt := 319) hx hb dL_law_275 (by decide) (by with_reducible rfl) (by with_reducible rfl) (by omega) (by omega) (fun c_275 => ?_) (fun c_275 => ?_)
                      | refine lv_icmp_ge (tgt := 319) hx hb dL_law_275 (by decide) (fun c_275 => ?_) (fun c_275 => ?_)
                    · skip
                      skip
                      refine lv_aload_n hx hb dL_law_319 rfl (lv_at hl 1 rfl) ?_
                      refine kcSA X hP hS hA (c_L_areVersions l hI jh268_0 (vok_of jh268_0)) v_L_101 ⟨Nat.le_of_ble_eq_true rfl, Nat.le_of_ble_eq_true rfl, rfl, rfl⟩ rfl rfl (Nat.le_of_ble_eq_true rfl) hl.1 (by exact ⟨Nat.le_of_ble_eq_true rfl, Nat.le_of_ble_eq_true rfl⟩) dL_law_320 (fun r_320 G_320 H locs hR hP hS => ?_)
                      obtain ⟨rfl, hG_320⟩ := hR
                      rw [hG_320] at hP
                      clear hG_320
                      first
                        | refine kif_eq (tgt := 336) hx hb dL_law_323 (by decide) (fun c_323 => ?_) (fun c_323 => ?_)
                        | refine lv_if_eq (tgt := 336) hx hb dL_law_323 (by decide) (fun c_323 => ?_) (fun c_323 => ?_)
                      · skip
                        exact absurd c_323 (by decide)
                      · skip
                        refine lv_aload_n hx hb dL_law_326 rfl (lv_at hl 1 rfl) ?_
                        refine lv_lload_n hx hb dL_law_327 rfl (lv_at hl 2 rfl) ?_
                        refine kcSlA X hP hS hA (c_L_coins l hI jh268_0) v_L_105 ⟨Nat.le_of_ble_eq_true rfl, Nat.le_of_ble_eq_true rfl, rfl, rfl⟩ rfl rfl (Nat.le_of_ble_eq_true rfl) hl.1 (by exact ⟨Nat.le_of_ble_eq_true rfl, Nat.le_of_ble_eq_true rfl⟩) dL_law_328 (fun r_328 G_328 H locs hR hP hS => ?_)
                        obtain ⟨rfl, hG_328⟩ := hR
                        rw [hG_328] at hP
                        clear hG_328
                        rw [coin_ok jh268_0 jh268_1 (by omega)]
                        refine lv_lconst (v := lN 0) hx hb dL_law_331 (by decide) ?_
                        refine W.lcmp hx hb dL_law_332 ?_
                        refine lv_if_eq (tgt := 338) hx hb dL_law_333 (by decide) (fun c_333 => ?_) (fun c_333 => ?_)
                        · skip
                          refine kinc (q := 5) hx hb dL_law_338 hl rfl (by decide) (kq_0i1i2w4i5i6i15i17i_6i rfl) (fun ls hl => ?_)
                          refine lv_goto (tgt := 39) hx hb dL_law_341 (by decide) ?_
                          exact ih (k + 1) put2 L2 N2 Hs2 G2 _ _ _ (by omega) (by omega) (by omega) jh268_0 jh268_1 hP hS (lv_sub hl [0,1,2,3,4,5] rfl)
                        · skip
                          exact absurd ((lg_cmp_eq _ _).mpr rfl) c_333
                    · skip
                      refine lv_aload_n hx hb dL_law_278 rfl (lv_at hl 1 rfl) ?_
                      refine lv_iload hx hb dL_law_279 (lv_at hl 7 rfl) ?_
                      refine kcSA X hP hS hA (c_L_seen l hI jh268_0) v_L_89 ⟨Nat.le_of_ble_eq_true rfl, Nat.le_of_ble_eq_true rfl, rfl, rfl⟩ rfl rfl (Nat.le_of_ble_eq_true rfl) hl.1 (by exact ⟨Nat.le_of_ble_eq_true rfl, Nat.le_of_ble_eq_true rfl⟩) dL_law_281 (fun r_281 G_281 H locs hR hP hS => ?_)
                      obtain ⟨rfl, hG_281⟩ := hR
                      rw [hG_281] at hP
                      clear hG_281
                      refine kistW hx hb dL_law_284 hl (by decide) (kq_0i1i2w4i5i6i15i17i_18i rfl) (fun ls hl => ?_)
                      refine lv_iload hx hb dL_law_286 (lv_at hl 8 rfl) ?_
                      refine lv_if_lt (tgt := 301) hx hb dL_law_288 (by decide) (fun c_288 => ?_) (fun c_288 => ?_)
                      · skip
                        refine lv_aload_n hx hb dL_law_301 rfl (lv_at hl 1 rfl) ?_
                        refine lv_iload hx hb dL_law_302 (lv_at hl 7 rfl) ?_
                        refine lv_iconst (v := nI 2) hx hb dL_law_304 (by decide) ?_
                        refine kcVA X hP hS hA (ln_reader l hI jh268_0) oX v_L_27 ⟨Nat.le_of_ble_eq_true rfl, Nat.le_of_ble_eq_true rfl, rfl, rfl⟩ rfl rfl (Nat.le_of_ble_eq_true rfl) hl.1 (by exact ⟨Nat.le_of_ble_eq_true rfl, Nat.le_of_ble_eq_true rfl⟩) dL_law_305 (fun r_305 G_305 H locs hR hP hS => ?_)
                        obtain ⟨rfl, hG_305⟩ := hR
                        rw [hG_305] at hP
                        clear hG_305
                        refine lv_if_ge (tgt := 313) hx hb dL_law_308 (by decide) (fun c_308 => ?_) (fun c_308 => ?_)
                        · skip
                          refine kinc (q := 7) hx hb dL_law_313 hl rfl (by decide) kq_0i1i2w4i5i6i15i17i18i_17i (fun ls hl => ?_)
                          refine lv_goto (tgt := 271) hx hb dL_law_316 (by decide) ?_
                          exact ih_271 _ _ _ _ (by omega) (by omega) hP hS (lv_sub hl [0,1,2,3,4,5,6,7] rfl)
                        · skip
                          exact absurd (Int32.not_lt.mp (rd2_at jh268_0 jh268_1 (show r < nZ (N2 2) by omega)).1) c_308
                      · skip
                        refine lv_iload hx hb dL_law_291 (lv_at hl 8 rfl) ?_
                        refine lv_aload hx hb dL_law_293 (lv_at hl 3 rfl) ?_
                        refine lv_iload hx hb dL_law_295 (lv_at hl 7 rfl) ?_
                        refine kiald X hP aS (i := r) (by omega) dL_law_297 ?_
                        rw [jh268_3, hseen r c_275]
                        refine lv_icmp_ne (tgt := 311) hx hb dL_law_298 (by decide) (fun c_298 => ?_) (fun c_298 => ?_)
                        · skip
                          exact absurd (jh268_5 r c_275 c_288) c_298
                        · skip
                          refine lv_aload_n hx hb dL_law_301 rfl (lv_at hl 1 rfl) ?_
                          refine lv_iload hx hb dL_law_302 (lv_at hl 7 rfl) ?_
                          refine lv_iconst (v := nI 2) hx hb dL_law_304 (by decide) ?_
                          refine kcVA X hP hS hA (ln_reader l hI jh268_0) oX v_L_27 ⟨Nat.le_of_ble_eq_true rfl, Nat.le_of_ble_eq_true rfl, rfl, rfl⟩ rfl rfl (Nat.le_of_ble_eq_true rfl) hl.1 (by exact ⟨Nat.le_of_ble_eq_true rfl, Nat.le_of_ble_eq_true rfl⟩) dL_law_305 (fun r_305 G_305 H locs hR hP hS => ?_)
                          obtain ⟨rfl, hG_305⟩ := hR
                          rw [hG_305] at hP
                          clear hG_305
                          refine lv_if_ge (tgt := 313) hx hb dL_law_308 (by decide) (fun c_308 => ?_) (fun c_308 => ?_)
                          · skip
                            refine kinc (q := 7) hx hb dL_law_313 hl rfl (by decide) kq_0i1i2w4i5i6i15i17i18i_17i (fun ls hl => ?_)
                            refine lv_goto (tgt := 271) hx hb dL_law_316 (by decide) ?_
                            exact ih_271 _ _ _ _ (by omega) (by omega) hP hS (lv_sub hl [0,1,2,3,4,5,6,7] rfl)
                          · skip
                            exact absurd (Int32.not_lt.mp (rd2_at jh268_0 jh268_1 (show r < nZ (N2 2) by omega)).1) c_308
                exact lp_271 _ 0 _ _ _ (Nat.lt_succ_self _) (Nat.zero_le _) hP hS (lv_sub hl [0,1,2,3,4,5,6,7] rfl)
              refine lv_aload_n hx hb dL_law_152 rfl (lv_at hl 1 rfl) ?_
              refine lv_iload hx hb dL_law_153 (lv_at hl 9 rfl) ?_
              refine lv_iload hx hb dL_law_155 (lv_at hl 7 rfl) ?_
              refine lv_iload hx hb dL_law_157 (lv_at hl 8 rfl) ?_
              refine kcSA X hP hS hA (c_L_turn l hI hN1 hV) v_L_81 ⟨Nat.le_of_ble_eq_true rfl, Nat.le_of_ble_eq_true rfl, rfl, rfl⟩ rfl rfl (Nat.le_of_ble_eq_true rfl) hl.1 (by exact ⟨Nat.le_of_ble_eq_true rfl, Nat.le_of_ble_eq_true rfl⟩) dL_law_159 (fun r_159 G_159 H locs hR hP hS => ?_)
              obtain ⟨⟨hv, hG0, hnone, hsome⟩, hno, hyes⟩ := hR
              have hG0 : G_159 0 = G1 0 := hG0
              refine kistW hx hb dL_law_162 hl (by decide) (kq_0i1i2w4i5i6i7i8i9i10i11w13i14i15i16i_16i rfl) (fun ls hl => ?_)
              refine lv_iload hx hb dL_law_164 (lv_at hl 14 rfl) ?_
              refine lv_if_ge (tgt := 192) hx hb dL_law_166 (by decide) (fun c_166 => ?_) (fun c_166 => ?_)
              · skip
                obtain ⟨N', hN'⟩ : ∃ N', (turnX N (nI iw) x8 x9).2.2 = some N' := by
                  cases e : (turnX N (nI iw) x8 x9).2.2 with
                  | none =>
                    have z := hno e
                    rw [← hv] at z
                    exact absurd c_166 (Int32.not_le.mpr z)
                  | some N' => exact ⟨N', rfl⟩
                obtain ⟨d, hd⟩ : ∃ d, d = (turnX N (nI iw) x8 x9).1 := ⟨_, rfl⟩
                have hst2 := (hyes N' hN').2
                rw [← hd] at hst2
                have hN2 := hsome N' hN'
                have hst : (turnX N (nI iw) x8 x9).2 = (r_159, some N') := by rw [← hN', hv]
                have hput := put_ok jh95_0 rfl hN'
                rw [← hd] at hput
                obtain ⟨hd9, hI2, hn2', hmo3, -⟩ := id hst2
                rw [hnz] at hn2'
                obtain ⟨mo2, hmo2, hmo4⟩ := rln_0 hN2
                have hmo5 : mo2 ≤ mo + 1 := by
                  rw [hmo2, hmo] at hmo3
                  rcases hmo3 with z | z
                  · have := (nI_eq (by omega) (by omega)).mp z; omega
                  · rw [nI_add] at z; have := (nI_eq (by omega) (by omega)).mp z; omega
                have hr1 : Lh = 4 → rotL Lh + 1 = 4 := fun z => by rw [z]; rfl
                have hr2 : ¬ Lh = 4 → rotL Lh + 1 = Lh + 1 := fun z => by unfold rotL; rw [if_neg z]
                refine lv_lload_n hx hb dL_law_192 rfl (lv_at hl 2 rfl) ?_
                refine lv_iload hx hb dL_law_193 (lv_at hl 9 rfl) ?_
                refine lv_iload hx hb dL_law_195 (lv_at hl 7 rfl) ?_
                refine lv_iload hx hb dL_law_197 (lv_at hl 8 rfl) ?_
                refine lv_iload hx hb dL_law_199 (lv_at hl 14 rfl) ?_
                refine kcSlA X hP hS hA (c_L_putBy l hI) v_L_93 ⟨Nat.le_of_ble_eq_true rfl, Nat.le_of_ble_eq_true rfl, rfl, rfl⟩ rfl rfl (Nat.le_of_ble_eq_true rfl) hl.1 (by exact ⟨Nat.le_of_ble_eq_true rfl, Nat.le_of_ble_eq_true rfl⟩) dL_law_201 (fun r_201 G_201 H locs hR hP hS => ?_)
                obtain ⟨rfl, hG_201⟩ := hR
                rw [hG_201] at hP
                clear hG_201
                rw [hput]
                refine lv_ladd hx hb dL_law_204 ?_
                rw [lN_add]
                refine klst hx hb dL_law_205 rfl hl (by decide) (kq_0i1i2w4i5i6i7i8i9i10i11w13i14i15i16i_2w rfl) (fun ls hl => ?_)
                refine lv_aload_n hx hb dL_law_206 rfl (lv_at hl 1 rfl) ?_
                refine lv_bipush (v := nI 15) hx hb dL_law_207 (by decide) ?_
                refine kcVA X hP hS hA (ln_count l hI hN2 (by decide)) oX v_L_13 ⟨Nat.le_of_ble_eq_true rfl, Nat.le_of_ble_eq_true rfl, rfl, rfl⟩ rfl rfl (Nat.le_of_ble_eq_true rfl) hl.1 (by exact ⟨Nat.le_of_ble_eq_true rfl, Nat.le_of_ble_eq_true rfl⟩) dL_law_209 (fun r_209 G_209 H locs hR hP hS => ?_)
                obtain ⟨rfl, hG_209⟩ := hR
                rw [hG_209] at hP
                clear hG_209
                rw [aCt_15]
                refine lv_iload hx hb dL_law_212 (lv_at hl 11 rfl) ?_
                refine lv_iconst (v := nI 4) hx hb dL_law_214 (by decide) ?_
                first
                  | refine kic_ge (tgt := 225) hx hb dL_law_215 (by decide) (by with_reducible rfl) (by with_reducible rfl) (by omega) (by omega) (fun c_215 => ?_) (fun c_215 => ?_)
                  | refine lv_icmp_ge (tgt := 225) hx hb dL_law_215 (by decide) (fun c_215 => ?_) (fun c_215 => ?_)
                · skip
                  refine lv_iconst (v := nI 4) hx hb dL_law_225 (by decide) ?_
                  first
                    | refine kic_ne (tgt := 266) hx hb dL_law_226 (by decide) (by with_reducible rfl) (by with_reducible rfl) (by omega) (by omega) (fun c_226 => ?_) (fun c_226 => ?_)
                    | refine lv_icmp_ne (tgt := 266) hx hb dL_law_226 (by decide) (fun c_226 => ?_) (fun c_226 => ?_)
                  · skip
                    exact absurd c_226 (by omega)
                  · skip
                    refine lv_aload_n hx hb dL_law_229 rfl (lv_at hl 1 rfl) ?_
                    refine lv_iconst (v := nI 0) hx hb dL_law_230 (by decide) ?_
                    refine kcVA X hP hS hA (ln_count l hI hN2 (by decide)) oX v_L_13 ⟨Nat.le_of_ble_eq_true rfl, Nat.le_of_ble_eq_true rfl, rfl, rfl⟩ rfl rfl (Nat.le_of_ble_eq_true rfl) hl.1 (by exact ⟨Nat.le_of_ble_eq_true rfl, Nat.le_of_ble_eq_true rfl⟩) dL_law_231 (fun r_231 G_231 H locs hR hP hS => ?_)
                    obtain ⟨rfl, hG_231⟩ := hR
                    rw [hG_231] at hP
                    clear hG_231
                    rw [aCt_0, hmo2]
                    refine lv_iload hx hb dL_law_234 (lv_at hl 12 rfl) ?_
                    refine lv_iconst (v := nI 1) hx hb dL_law_236 (by decide) ?_
                    first
                      | refine kadd hx hb dL_law_237 (by with_reducible rfl) (by with_reducible rfl) ?_
                      | refine lv_iadd hx hb dL_law_237 ?_
                    first
                      | refine kic_gt (tgt := 266) hx hb dL_law_238 (by decide) (by with_reducible rfl) (by with_reducible rfl) (by omega) (by omega) (fun c_238 => ?_) (fun c_238 => ?_)
                      | refine lv_icmp_gt (tgt := 266) hx hb dL_law_238 (by decide) (fun c_238 => ?_) (fun c_238 => ?_)
                    · skip
                      exact absurd c_238 (by omega)
                    · skip
                      refine lv_iload hx hb dL_law_241 (lv_at hl 6 rfl) ?_
                      refine lv_bipush (v := nI 16) hx hb dL_law_243 (by decide) ?_
                      refine lv_iand hx hb dL_law_245 ?_
                      refine lv_if_ne (tgt := 268) hx hb dL_law_246 (by decide) (fun c_246 => ?_) (fun c_246 => ?_)
                      · skip
                        exact j_268 N' _ (put + d) _ _ _ _ _ hN2 hI2 (by omega) hG0 (by omega) (fun r hr h => seen_ok hN hN2 hst2 (by omega) h) hP hS (lv_sub hl [0,1,2,3,4,5,13] rfl)
                      · skip
                        refine lv_aload_n hx hb dL_law_249 rfl (lv_at hl 1 rfl) ?_
                        refine lv_iload hx hb dL_law_250 (lv_at hl 9 rfl) ?_
                        refine lv_iload hx hb dL_law_252 (lv_at hl 7 rfl) ?_
                        refine lv_iload hx hb dL_law_254 (lv_at hl 8 rfl) ?_
                        refine lv_iload hx hb dL_law_256 (lv_at hl 14 rfl) ?_
                        refine lv_lload hx hb dL_law_258 (lv_at hl 10 rfl) ?_
                        refine kcSA X hP hS hA (c_L_isUndone l hI hN2 hL4 hV hst) v_L_97 ⟨Nat.le_of_ble_eq_true rfl, Nat.le_of_ble_eq_true rfl, rfl, rfl⟩ rfl rfl (Nat.le_of_ble_eq_true rfl) hl.1 (by exact ⟨Nat.le_of_ble_eq_true rfl, Nat.le_of_ble_eq_true rfl⟩) dL_law_260 (fun r_260 G_260 H locs hR hP hS => ?_)
                        obtain ⟨rfl, hG26, Hs3, hN3⟩ := hR
                        refine lv_if_ne (tgt := 268) hx hb dL_law_263 (by decide) (fun c_263 => ?_) (fun c_263 => ?_)
                        · skip
                          exact j_268 N' _ (put + d) Hs3 _ _ _ _ hN3 hI2 (by omega) (hG26.trans hG0) (by omega) (fun r hr h => seen_ok hN hN2 hst2 (by omega) h) hP hS (lv_sub hl [0,1,2,3,4,5,13] rfl)
                        · skip
                          exact absurd c_263 (by decide)
                · skip
                  refine lv_iload hx hb dL_law_218 (lv_at hl 11 rfl) ?_
                  refine lv_iconst (v := nI 1) hx hb dL_law_220 (by decide) ?_
                  first
                    | refine kadd hx hb dL_law_221 (by with_reducible rfl) (by with_reducible rfl) ?_
                    | refine lv_iadd hx hb dL_law_221 ?_
                  refine lv_goto (tgt := 226) hx hb dL_law_222 (by decide) ?_
                  first
                    | refine kic_ne (tgt := 266) hx hb dL_law_226 (by decide) (by with_reducible rfl) (by with_reducible rfl) (by omega) (by omega) (fun c_226 => ?_) (fun c_226 => ?_)
                    | refine lv_icmp_ne (tgt := 266) hx hb dL_law_226 (by decide) (fun c_226 => ?_) (fun c_226 => ?_)
                  · skip
                    exact absurd c_226 (by omega)
                  · skip
                    refine lv_aload_n hx hb dL_law_229 rfl (lv_at hl 1 rfl) ?_
                    refine lv_iconst (v := nI 0) hx hb dL_law_230 (by decide) ?_
                    refine kcVA X hP hS hA (ln_count l hI hN2 (by decide)) oX v_L_13 ⟨Nat.le_of_ble_eq_true rfl, Nat.le_of_ble_eq_true rfl, rfl, rfl⟩ rfl rfl (Nat.le_of_ble_eq_true rfl) hl.1 (by exact ⟨Nat.le_of_ble_eq_true rfl, Nat.le_of_ble_eq_true rfl⟩) dL_law_231 (fun r_231 G_231 H locs hR hP hS => ?_)
                    obtain ⟨rfl, hG_231⟩ := hR
                    rw [hG_231] at hP
                    clear hG_231
                    rw [aCt_0, hmo2]
                    refine lv_iload hx hb dL_law_234 (lv_at hl 12 rfl) ?_
                    refine lv_iconst (v := nI 1) hx hb dL_law_236 (by decide) ?_
                    first
                      | refine kadd hx hb dL_law_237 (by with_reducible rfl) (by with_reducible rfl) ?_
                      | refine lv_iadd hx hb dL_law_237 ?_
                    first
                      | refine kic_gt (tgt := 266) hx hb dL_law_238 (by decide) (by with_reducible rfl) (by with_reducible rfl) (by omega) (by omega) (fun c_238 => ?_) (fun c_238 => ?_)
                      | refine lv_icmp_gt (tgt := 266) hx hb dL_law_238 (by decide) (fun c_238 => ?_) (fun c_238 => ?_)
                    · skip
                      exact absurd c_238 (by omega)
                    · skip
                      refine lv_iload hx hb dL_law_241 (lv_at hl 6 rfl) ?_
                      refine lv_bipush (v := nI 16) hx hb dL_law_243 (by decide) ?_
                      refine lv_iand hx hb dL_law_245 ?_
                      refine lv_if_ne (tgt := 268) hx hb dL_law_246 (by decide) (fun c_246 => ?_) (fun c_246 => ?_)
                      · skip
                        exact j_268 N' _ (put + d) _ _ _ _ _ hN2 hI2 (by omega) hG0 (by omega) (fun r hr h => seen_ok hN hN2 hst2 (by omega) h) hP hS (lv_sub hl [0,1,2,3,4,5,13] rfl)
                      · skip
                        refine lv_aload_n hx hb dL_law_249 rfl (lv_at hl 1 rfl) ?_
                        refine lv_iload hx hb dL_law_250 (lv_at hl 9 rfl) ?_
                        refine lv_iload hx hb dL_law_252 (lv_at hl 7 rfl) ?_
                        refine lv_iload hx hb dL_law_254 (lv_at hl 8 rfl) ?_
                        refine lv_iload hx hb dL_law_256 (lv_at hl 14 rfl) ?_
                        refine lv_lload hx hb dL_law_258 (lv_at hl 10 rfl) ?_
                        refine kcSA X hP hS hA (c_L_isUndone l hI hN2 hL4 hV hst) v_L_97 ⟨Nat.le_of_ble_eq_true rfl, Nat.le_of_ble_eq_true rfl, rfl, rfl⟩ rfl rfl (Nat.le_of_ble_eq_true rfl) hl.1 (by exact ⟨Nat.le_of_ble_eq_true rfl, Nat.le_of_ble_eq_true rfl⟩) dL_law_260 (fun r_260 G_260 H locs hR hP hS => ?_)
                        obtain ⟨rfl, hG26, Hs3, hN3⟩ := hR
                        refine lv_if_ne (tgt := 268) hx hb dL_law_263 (by decide) (fun c_263 => ?_) (fun c_263 => ?_)
                        · skip
                          exact j_268 N' _ (put + d) Hs3 _ _ _ _ hN3 hI2 (by omega) (hG26.trans hG0) (by omega) (fun r hr h => seen_ok hN hN2 hst2 (by omega) h) hP hS (lv_sub hl [0,1,2,3,4,5,13] rfl)
                        · skip
                          exact absurd c_263 (by decide)
              · skip
                have hz : (turnX N (nI iw) x8 x9).2.2 = none := by
                  cases e : (turnX N (nI iw) x8 x9).2.2 with
                  | none => rfl
                  | some N' =>
                    refine absurd (hyes N' e).1 (fun z => c_166 ?_)
                    rw [hv]
                    exact Int32.not_lt.mp z
                have hG1 := hnone hz
                rw [hG1] at hP
                refine lv_aload_n hx hb dL_law_169 rfl (lv_at hl 1 rfl) ?_
                refine kcSlA X hP hS hA (c_L_view l hI hN1) v_L_73 ⟨Nat.le_of_ble_eq_true rfl, Nat.le_of_ble_eq_true rfl, rfl, rfl⟩ rfl rfl (Nat.le_of_ble_eq_true rfl) hl.1 (by exact ⟨Nat.le_of_ble_eq_true rfl, Nat.le_of_ble_eq_true rfl⟩) dL_law_170 (fun r_170 G_170 H locs hR hP hS => ?_)
                obtain ⟨rfl, hG_170⟩ := hR
                rw [hG_170] at hP
                clear hG_170
                refine lv_lload hx hb dL_law_173 (lv_at hl 10 rfl) ?_
                refine W.lcmp hx hb dL_law_175 ?_
                refine lv_if_ne (tgt := 190) hx hb dL_law_176 (by decide) (fun c_176 => ?_) (fun c_176 => ?_)
                · skip
                  exact absurd ((lg_cmp_eq _ _).mpr rfl) c_176
                · skip
                  refine lv_aload_n hx hb dL_law_179 rfl (lv_at hl 1 rfl) ?_
                  refine lv_bipush (v := nI 15) hx hb dL_law_180 (by decide) ?_
                  refine kcVA X hP hS hA (ln_count l hI hN1 (by decide)) oX v_L_13 ⟨Nat.le_of_ble_eq_true rfl, Nat.le_of_ble_eq_true rfl, rfl, rfl⟩ rfl rfl (Nat.le_of_ble_eq_true rfl) hl.1 (by exact ⟨Nat.le_of_ble_eq_true rfl, Nat.le_of_ble_eq_true rfl⟩) dL_law_182 (fun r_182 G_182 H locs hR hP hS => ?_)
                  obtain ⟨rfl, hG_182⟩ := hR
                  rw [hG_182] at hP
                  clear hG_182
                  rw [aCt_15]
                  refine lv_iload hx hb dL_law_185 (lv_at hl 11 rfl) ?_
                  refine lv_icmp_eq (tgt := 268) hx hb dL_law_187 (by decide) (fun c_187 => ?_) (fun c_187 => ?_)
                  · skip
                    exact j_268 N Lh put Hs G1 _ _ _ hN1 hV (by omega) rfl (by omega) (fun _ _ _ => rfl) hP hS (lv_sub hl [0,1,2,3,4,5,13] rfl)
                  · skip
                    exact absurd rfl c_187
            · skip
              refine lv_aload hx hb dL_law_135 (lv_at hl 3 rfl) ?_
              refine lv_iload hx hb dL_law_137 (lv_at hl 14 rfl) ?_
              refine lv_aload_n hx hb dL_law_139 rfl (lv_at hl 1 rfl) ?_
              refine lv_iload hx hb dL_law_140 (lv_at hl 14 rfl) ?_
              refine kcSA X hP hS hA (c_L_seen l hI (rln_g hN ivs_1)) v_L_89 ⟨Nat.le_of_ble_eq_true rfl, Nat.le_of_ble_eq_true rfl, rfl, rfl⟩ rfl rfl (Nat.le_of_ble_eq_true rfl) hl.1 (by exact ⟨Nat.le_of_ble_eq_true rfl, Nat.le_of_ble_eq_true rfl⟩) dL_law_142 (fun r_142 G_142 H locs hR hP hS => ?_)
              obtain ⟨rfl, hG_142⟩ := hR
              rw [hG_142] at hP
              clear hG_142
              refine kiastA X hI hA hP hS aS (i := r) (by omega) dL_law_145 (fun H locs hP hS => ?_)
              refine kinc (q := 14) hx hb dL_law_146 hl rfl (by decide) (kq_0i1i2w4i5i6i7i8i9i10i11w13i14i15i16i_16i rfl) (fun ls hl => ?_)
              refine lv_goto (tgt := 128) hx hb dL_law_149 (by decide) ?_
              exact ih_128 _ _ _ _ _ (by omega) (by omega) (fun q hq => (gs_other hq).trans (ivs_1 q hq)) (fun q hq => by
                  rw [gs_up]
                  by_cases z : q = r
                  · rw [z, upd_eq]
                  · rw [upd_ne z]; exact ivs_2 q (by omega)) hP hS (lv_sub hl [0,1,2,3,4,5,6,7,8,9,10,11,12,13,14] rfl)
        exact lp_128 _ 0 G _ _ _ (Nat.lt_succ_self _) (Nat.zero_le _) (fun _ _ => rfl) (fun q hq => absurd hq (Nat.not_lt_zero _)) hP hS (lv_sub hl [0,1,2,3,4,5,6,7,8,9,10,11,12,13,14] rfl)
      refine lv_iload hx hb dL_law_80 (lv_at hl 5 rfl) ?_
      refine lv_iconst (v := nI 2) hx hb dL_law_82 (by decide) ?_
      first
        | refine kic_ge (tgt := 90) hx hb dL_law_83 (by decide) (by with_reducible rfl) (by with_reducible rfl) (by omega) (by omega) (fun c_83 => ?_) (fun c_83 => ?_)
        | refine lv_icmp_ge (tgt := 90) hx hb dL_law_83 (by decide) (fun c_83 => ?_) (fun c_83 => ?_)
      · skip
        refine lv_iload hx hb dL_law_90 (lv_at hl 6 rfl) ?_
        refine lv_bipush (v := nI 15) hx hb dL_law_92 (by decide) ?_
        refine lv_iand hx hb dL_law_94 ?_
        obtain ⟨iw, hiw, eiw⟩ := pk_andE x7 (m := nI 15) 4 (by decide)
        rw [eiw]
        exact j_95 iw _ _ _ (by omega) hP hS (lv_sub hl [0,1,2,3,4,5,6,7,8] rfl)
      · skip
        refine lv_iconst (v := nI 0) hx hb dL_law_86 (by decide) ?_
        refine lv_goto (tgt := 95) hx hb dL_law_87 (by decide) ?_
        exact j_95 0 _ _ _ (by omega) hP hS (lv_sub hl [0,1,2,3,4,5,6,7,8] rfl)
