
def cE (S : Nat → Int32) (T a : Nat) : Nat := eon S T a 2
def vE (S : Nat → Int32) (T a : Nat) : Nat := eon S T (cE S T a + 1) 4
/-- where the t-th write of a text begins -/
def pA (S : Nat → Int32) (T : Nat) : Nat → Nat
  | 0 => 0
  | t + 1 => vE S T (pA S T t) + 1
def bad1 (S : Nat → Int32) (T a : Nat) : Prop := cE S T a = a ∨ ¬ sgn S T (cE S T a) 61
def pR (S : Nat → Int32) (T : Nat) : Nat → Nat → Int32
  | 0, _ => nI T
  | k + 1, a => if cE S T a = a ∨ ¬ sgn S T (cE S T a) 61 then nI (cE S T a) else if vE S T a = cE S T a + 1 then nI (vE S T a) else if T ≤ vE S T a then -1 else if ¬ sgn S T (vE S T a) 59 then nI (vE S T a) else pR S T k (vE S T a + 1)
def pW (S : Nat → Int32) (T : Nat) : Nat → Nat → Nat
  | 0, _ => 0
  | k + 1, a => if cE S T a = a ∨ ¬ sgn S T (cE S T a) 61 then 0 else if vE S T a = cE S T a + 1 then 0 else if T ≤ vE S T a then 1 else if ¬ sgn S T (vE S T a) 59 then 0 else pW S T k (vE S T a + 1) + 1
def wc (S : Nat → Int32) (T t : Nat) : Int32 := nmF S (pA S T t) (cE S T (pA S T t) - pA S T t)
def wv (S : Nat → Int32) (T t : Nat) : Int32 := nmF S (cE S T (pA S T t) + 1) (vE S T (pA S T t) - (cE S T (pA S T t) + 1))
set_option maxHeartbeats 4000000 in
set_option maxRecDepth 100000 in
theorem c_X5_parse (l : Launch) {D : va_G} {τ : Nat → ClassId} {ad : Nat → Nat} (hI : kInj ad) {G : Nat → Nat → Int32} {T : Nat} (hT : G 10 1 = nI T) (hT6 : T ≤ 60) : kM l yX5_parse cX5_parse 6 (some .int) { frames := 2, cells := 0, slots := 0, locals := 46 } D τ ad [.ref (ad 10)] G (fun v G' => v = pR (G 11) T 16 0 ∧ (∀ k, k ≠ 10 → k ≠ 12 → k ≠ 13 → G' k = G k) ∧ G' 10 1 = nI T ∧ (v = -1 → G' 10 4 = nI (pW (G 11) T 16 0) ∧ pW (G 11) T 16 0 ≤ 16 ∧ ∀ t, t < pW (G 11) T 16 0 → G' 12 t = wc (G 11) T t ∧ G' 13 t = wv (G 11) T t)) := by
  refine kMet (own := RX5) (by decide) rfl (Nat.le_of_ble_eq_true rfl) ?_
  intro p9 e9 s9 m9 args9 below9 meth9 c9 Q9 X hx hb hP hS hret ls hl
  have hPs := hP
  have hl : lv_has ls 6 [(0, .ref (ad 10))] := hl
  refine lv_iconst (v := nI 0) hx hb dX5_parse_0 (by decide) ?_
  refine kist hx hb dX5_parse_1 rfl hl (by decide) (kp_1_1 rfl) (fun ls hl => ?_)
  refine lv_iconst (v := nI 0) hx hb dX5_parse_2 (by decide) ?_
  refine kist hx hb dX5_parse_3 rfl hl (by decide) (kp_2_2 rfl) (fun ls hl => ?_)
  have lp_4 : ∀ (d : Nat) (a i : Nat) (G1 : Nat → Nat → Int32) (H : Heap) (locs : List Loc) (ls : Array Slot), (16 - i) < d → (a ≤ T) → (a = pA (G 11) T i ∧ i ≤ 16) → (pR (G 11) T 16 0 = pR (G 11) T (16 - i) a ∧ pW (G 11) T 16 0 = pW (G 11) T (16 - i) a + i) → (∀ k, k ≠ 10 → k ≠ 12 → k ≠ 13 → G1 k = G k) → (G1 10 1 = nI T) → (∀ t, t < i → G1 12 t = wc (G 11) T t ∧ G1 13 t = wv (G 11) T t) → va_P D vwCl (kW τ ad G1) H → va_S (kAd ad) s9.heap H locs → lv_has ls 6 [(0, .ref (ad 10)), (1, .int (nI a)), (2, .int (nI i))] → W p9 l e9 { frames := 2, cells := 0, slots := 0, locals := 46 } s9 m9 args9 below9 meth9 c9 H locs 0 0 Q9 (F0 m9 4 ls []) := by
    intro d
    induction d with
    | zero => exact fun _ _ _ _ _ _ hd => absurd hd (Nat.not_lt_zero _)
    | succ d ih_4 =>
      intro a i G1 H locs ls hd iv_0 iv_1 iv_2 iv_3 iv_4 iv_5 hP hS hl
      have e11 : G1 11 = G 11 := iv_3 11 (by omega) (by omega) (by omega)
      refine lv_iload_n hx hb dX5_parse_4 rfl (lv_at hl 2 rfl) ?_
      refine lv_bipush (v := nI 16) hx hb dX5_parse_5 (by decide) ?_
      first
        | refine kic_ge (tgt := 127) hx hb dX5_parse_7 (by decide) (by with_reducible rfl) (by with_reducible rfl) (by omega) (by omega) (fun c_7 => ?_) (fun c_7 => ?_)
        | refine lv_icmp_ge (tgt := 127) hx hb dX5_parse_7 (by decide) (fun c_7 => ?_) (fun c_7 => ?_)
      · skip
        refine lv_aload_n hx hb dX5_parse_127 rfl (lv_at hl 0 rfl) ?_
        refine kget X hP oT g_X5_22 (congrArg (fun z => some (Value.int z)) iv_4) dX5_parse_128 ?_
        exact hret _ _ _ _ _ _ (by
                have e : 16 - i = 0 := (by omega)
                have hv : nI T = pR (G 11) T 16 0 := (by rw [iv_2.1, e, pR])
                exact ⟨hv, iv_3, iv_4, fun z => absurd z (nI_m1 (by omega))⟩) hP hS dX5_parse_131
      · skip
        refine lv_aload_n hx hb dX5_parse_10 rfl (lv_at hl 0 rfl) ?_
        refine lv_iload_n hx hb dX5_parse_11 rfl (lv_at hl 1 rfl) ?_
        refine lv_iconst (v := nI 2) hx hb dX5_parse_12 (by decide) ?_
        refine kcV X hP hS (c_X5_endOfNumber l hI (m := 2) iv_4 hT6 (by omega) ⟨by omega, by omega⟩) oT v_X5_26 ⟨Nat.le_of_ble_eq_true rfl, Nat.le_of_ble_eq_true rfl, rfl, rfl⟩ rfl rfl (Nat.le_of_ble_eq_true rfl) hl.1 ⟨Nat.zero_le _, Nat.zero_le _⟩ dX5_parse_13 (fun r_13 G_13 H locs hR hP hS => ?_)
        obtain ⟨rfl, hG_13⟩ := hR
        rw [hG_13] at hP
        clear hG_13
        rw [e11]
        obtain ⟨ce, hce⟩ : ∃ z, z = eon (G 11) T a 2 := ⟨_, rfl⟩
        rw [← hce]
        have b1 := eon_b (G 11) T a 2
        rw [← hce] at b1
        have hcE : cE (G 11) T a = ce := hce.symm
        refine kist hx hb dX5_parse_16 rfl hl (by decide) (kp_3_3 rfl) (fun ls hl => ?_)
        refine lv_iload_n hx hb dX5_parse_17 rfl (lv_at hl 3 rfl) ?_
        refine lv_iload_n hx hb dX5_parse_18 rfl (lv_at hl 1 rfl) ?_
        first
          | refine kic_eq (tgt := 32) hx hb dX5_parse_19 (by decide) (by with_reducible rfl) (by with_reducible rfl) (by omega) (by omega) (fun c_19 => ?_) (fun c_19 => ?_)
          | refine lv_icmp_eq (tgt := 32) hx hb dX5_parse_19 (by decide) (fun c_19 => ?_) (fun c_19 => ?_)
        · skip
          refine lv_iload_n hx hb dX5_parse_32 rfl (lv_at hl 3 rfl) ?_
          exact hret _ _ _ _ _ _ (by
                  have hf : 16 - i = (16 - (i + 1)) + 1 := (by omega)
                  have hb1 : ce = a ∨ ¬ sgn (G 11) T ce 61 := Or.inl c_19
                  have hv : nI ce = pR (G 11) T 16 0 := (by rw [iv_2.1, hf, pR, hcE, if_pos hb1])
                  exact ⟨hv, iv_3, iv_4, fun z => absurd z (nI_m1 (by omega))⟩) hP hS dX5_parse_33
        · skip
          refine lv_aload_n hx hb dX5_parse_22 rfl (lv_at hl 0 rfl) ?_
          refine lv_iload_n hx hb dX5_parse_23 rfl (lv_at hl 3 rfl) ?_
          refine lv_bipush (v := nI 61) hx hb dX5_parse_24 (by decide) ?_
          refine kcV X hP hS (c_X5_isSign l hI (b := 61) iv_4 hT6 (by omega)) oT v_X5_30 ⟨Nat.le_of_ble_eq_true rfl, Nat.le_of_ble_eq_true rfl, rfl, rfl⟩ rfl rfl (Nat.le_of_ble_eq_true rfl) hl.1 ⟨Nat.zero_le _, Nat.zero_le _⟩ dX5_parse_26 (fun r_26 G_26 H locs hR hP hS => ?_)
          obtain ⟨rfl, hG_26⟩ := hR
          rw [hG_26] at hP
          clear hG_26
          rw [e11]
          first
            | refine kif_ne (tgt := 34) hx hb dX5_parse_29 (by decide) (fun c_29 => ?_) (fun c_29 => ?_)
            | refine lv_if_ne (tgt := 34) hx hb dX5_parse_29 (by decide) (fun c_29 => ?_) (fun c_29 => ?_)
          · skip
            refine lv_iload_n hx hb dX5_parse_34 rfl (lv_at hl 3 rfl) ?_
            refine lv_iconst (v := nI 1) hx hb dX5_parse_35 (by decide) ?_
            first
              | refine kadd hx hb dX5_parse_36 (by with_reducible rfl) (by with_reducible rfl) ?_
              | refine lv_iadd hx hb dX5_parse_36 ?_
            refine kistW hx hb dX5_parse_37 hl (by decide) (kp_4_4 rfl) (fun ls hl => ?_)
            refine lv_aload_n hx hb dX5_parse_39 rfl (lv_at hl 0 rfl) ?_
            refine lv_iload hx hb dX5_parse_40 (lv_at hl 4 rfl) ?_
            refine lv_iconst (v := nI 4) hx hb dX5_parse_42 (by decide) ?_
            refine kcV X hP hS (c_X5_endOfNumber l hI (m := 4) iv_4 hT6 (by omega) ⟨by omega, by omega⟩) oT v_X5_26 ⟨Nat.le_of_ble_eq_true rfl, Nat.le_of_ble_eq_true rfl, rfl, rfl⟩ rfl rfl (Nat.le_of_ble_eq_true rfl) hl.1 ⟨Nat.zero_le _, Nat.zero_le _⟩ dX5_parse_43 (fun r_43 G_43 H locs hR hP hS => ?_)
            obtain ⟨rfl, hG_43⟩ := hR
            rw [hG_43] at hP
            clear hG_43
            rw [e11]
            obtain ⟨ve, hve⟩ : ∃ z, z = eon (G 11) T (ce + 1) 4 := ⟨_, rfl⟩
            rw [← hve]
            have b2 := eon_b (G 11) T (ce + 1) 4
            rw [← hve] at b2
            have hvE : vE (G 11) T a = ve := by rw [vE, hcE]; exact hve.symm
            have hb1 : ¬ (ce = a ∨ ¬ sgn (G 11) T ce 61) := fun z => z.elim c_19 (fun q => q c_29)
            have hlt := c_29.1
            refine kistW hx hb dX5_parse_46 hl (by decide) (kp_5_5 rfl) (fun ls hl => ?_)
            refine lv_iload hx hb dX5_parse_48 (lv_at hl 5 rfl) ?_
            refine lv_iload hx hb dX5_parse_50 (lv_at hl 4 rfl) ?_
            first
              | refine kic_ne (tgt := 58) hx hb dX5_parse_52 (by decide) (by with_reducible rfl) (by with_reducible rfl) (by omega) (by omega) (fun c_52 => ?_) (fun c_52 => ?_)
              | refine lv_icmp_ne (tgt := 58) hx hb dX5_parse_52 (by decide) (fun c_52 => ?_) (fun c_52 => ?_)
            · skip
              refine lv_aload_n hx hb dX5_parse_58 rfl (lv_at hl 0 rfl) ?_
              refine kget X hP oT g_X5_15 rfl dX5_parse_59 ?_
              refine lv_iload_n hx hb dX5_parse_62 rfl (lv_at hl 2 rfl) ?_
              refine lv_aload_n hx hb dX5_parse_63 rfl (lv_at hl 0 rfl) ?_
              refine lv_iload_n hx hb dX5_parse_64 rfl (lv_at hl 1 rfl) ?_
              refine lv_iload_n hx hb dX5_parse_65 rfl (lv_at hl 3 rfl) ?_
              refine kcV X hP hS (c_X5_number l hI iv_4 hT6 b1.1 (by have := c_29.1; omega)) oT v_X5_34 ⟨Nat.le_of_ble_eq_true rfl, Nat.le_of_ble_eq_true rfl, rfl, rfl⟩ rfl rfl (Nat.le_of_ble_eq_true rfl) hl.1 ⟨Nat.zero_le _, Nat.zero_le _⟩ dX5_parse_66 (fun r_66 G_66 H locs hR hP hS => ?_)
              obtain ⟨rfl, hG_66⟩ := hR
              rw [hG_66] at hP
              clear hG_66
              rw [e11]
              refine kiast X hI hP hS aTc (by omega) dX5_parse_69 (fun H locs hP hS => ?_)
              refine lv_aload_n hx hb dX5_parse_70 rfl (lv_at hl 0 rfl) ?_
              refine kget X hP oT g_X5_19 rfl dX5_parse_71 ?_
              refine lv_iload_n hx hb dX5_parse_74 rfl (lv_at hl 2 rfl) ?_
              refine lv_aload_n hx hb dX5_parse_75 rfl (lv_at hl 0 rfl) ?_
              refine lv_iload hx hb dX5_parse_76 (lv_at hl 4 rfl) ?_
              refine lv_iload hx hb dX5_parse_78 (lv_at hl 5 rfl) ?_
              refine kcV X hP hS (c_X5_number l hI (T := T) (by simp [gs, iv_4]) hT6 b2.1 (by omega)) oT v_X5_34 ⟨Nat.le_of_ble_eq_true rfl, Nat.le_of_ble_eq_true rfl, rfl, rfl⟩ rfl rfl (Nat.le_of_ble_eq_true rfl) hl.1 ⟨Nat.zero_le _, Nat.zero_le _⟩ dX5_parse_80 (fun r_80 G_80 H locs hR hP hS => ?_)
              obtain ⟨rfl, hG_80⟩ := hR
              rw [hG_80] at hP
              clear hG_80
              rw [gs_other (show (11 : Nat) ≠ 12 by omega), e11]
              refine kiast X hI hP hS aTv (by omega) dX5_parse_83 (fun H locs hP hS => ?_)
              refine lv_aload_n hx hb dX5_parse_84 rfl (lv_at hl 0 rfl) ?_
              refine lv_iload_n hx hb dX5_parse_85 rfl (lv_at hl 2 rfl) ?_
              refine lv_iconst (v := nI 1) hx hb dX5_parse_86 (by decide) ?_
              first
                | refine kadd hx hb dX5_parse_87 (by with_reducible rfl) (by with_reducible rfl) ?_
                | refine lv_iadd hx hb dX5_parse_87 ?_
              refine kput X hI hP hS oT g_X5_37 (fun _ => rfl) rfl (fun _ => Nat.le_of_ble_eq_true rfl) rfl rfl dX5_parse_88 (fun H locs hP hS => ?_)
              refine lv_iload hx hb dX5_parse_91 (lv_at hl 5 rfl) ?_
              refine lv_aload_n hx hb dX5_parse_93 rfl (lv_at hl 0 rfl) ?_
              refine kget X hP oT g_X5_22 (congrArg (fun z => some (Value.int z)) (by simp [gs, iv_4] : _ = nI T)) dX5_parse_94 ?_
              first
                | refine kic_lt (tgt := 102) hx hb dX5_parse_97 (by decide) (by with_reducible rfl) (by with_reducible rfl) (by omega) (by omega) (fun c_97 => ?_) (fun c_97 => ?_)
                | refine lv_icmp_lt (tgt := 102) hx hb dX5_parse_97 (by decide) (fun c_97 => ?_) (fun c_97 => ?_)
              · skip
                refine lv_aload_n hx hb dX5_parse_102 rfl (lv_at hl 0 rfl) ?_
                refine lv_iload hx hb dX5_parse_103 (lv_at hl 5 rfl) ?_
                refine lv_bipush (v := nI 59) hx hb dX5_parse_105 (by decide) ?_
                refine kcV X hP hS (c_X5_isSign l hI (T := T) (b := 59) (by simp [gs, iv_4]) hT6 (by omega)) oT v_X5_30 ⟨Nat.le_of_ble_eq_true rfl, Nat.le_of_ble_eq_true rfl, rfl, rfl⟩ rfl rfl (Nat.le_of_ble_eq_true rfl) hl.1 ⟨Nat.zero_le _, Nat.zero_le _⟩ dX5_parse_107 (fun r_107 G_107 H locs hR hP hS => ?_)
                obtain ⟨rfl, hG_107⟩ := hR
                rw [hG_107] at hP
                clear hG_107
                rw [gs_other (show (11 : Nat) ≠ 10 by omega), gs_other (show (11 : Nat) ≠ 13 by omega), gs_other (show (11 : Nat) ≠ 12 by omega), e11]
                first
                  | refine kif_ne (tgt := 116) hx hb dX5_parse_110 (by decide) (fun c_110 => ?_) (fun c_110 => ?_)
                  | refine lv_if_ne (tgt := 116) hx hb dX5_parse_110 (by decide) (fun c_110 => ?_) (fun c_110 => ?_)
                · skip
                  refine lv_iload hx hb dX5_parse_116 (lv_at hl 5 rfl) ?_
                  refine lv_iconst (v := nI 1) hx hb dX5_parse_118 (by decide) ?_
                  first
                    | refine kadd hx hb dX5_parse_119 (by with_reducible rfl) (by with_reducible rfl) ?_
                    | refine lv_iadd hx hb dX5_parse_119 ?_
                  refine kist hx hb dX5_parse_120 rfl hl (by decide) (kp_6_1 rfl) (fun ls hl => ?_)
                  first
                    | refine kinc (q := 2) hx hb dX5_parse_121 hl rfl (by decide) (kp_6_2 rfl) (fun ls hl => ?_)
                    | refine kincG (q := 2) hx hb dX5_parse_121 hl rfl (by decide) (kp_6_2 rfl) (fun ls hl => ?_)
                  refine lv_goto (tgt := 4) hx hb dX5_parse_124 (by decide) ?_
                  exact ih_4 _ _ _ _ _ _ (by omega) (by have := c_110.1; omega) (⟨by rw [pA, ← iv_1.1, hvE], by omega⟩) (by
                         have hf : 16 - i = (16 - (i + 1)) + 1 := (by omega)
                         have hn1 : ¬ (T ≤ ve) := (by have := c_110.1; omega)
                         have hn2 : ¬ (ve = ce + 1) := c_52
                         have hn3 : ¬ ¬ sgn (G 11) T ve 59 := fun z => z c_110
                         refine ⟨iv_2.1.trans ?_, iv_2.2.trans ?_⟩
                         · rw [hf, pR, hcE, hvE, if_neg hb1, if_neg hn2, if_neg hn1, if_neg hn3]
                         · rw [hf, pW, hcE, hvE, if_neg hb1, if_neg hn2, if_neg hn1, if_neg hn3]; omega) (fun k h1 h2 h3 => by rw [gs_other h1, gs_other h3, gs_other h2]; exact iv_3 k h1 h2 h3) (by simp [gs, iv_4]) (fun t ht => by
                          by_cases e : t = i
                          · subst e
                            refine ⟨?_, ?_⟩
                            · rw [wc, ← iv_1.1, hcE]; simp [gs]
                            · rw [wv, ← iv_1.1, hcE, hvE]; simp [gs]
                          · have q := iv_5 t (by omega)
                            refine ⟨?_, ?_⟩
                            · simp [gs, e]; exact q.1
                            · simp [gs, e]; exact q.2) hP hS (lv_sub hl [0,1,2] rfl)
                · skip
                  refine lv_iload hx hb dX5_parse_113 (lv_at hl 5 rfl) ?_
                  exact hret _ _ _ _ _ _ (by
                          have hf : 16 - i = (16 - (i + 1)) + 1 := (by omega)
                          have hn2 : ¬ (ve = ce + 1) := c_52
                          have hn1 : ¬ (T ≤ ve) := (by omega)
                          have hv : nI ve = pR (G 11) T 16 0 := (by rw [iv_2.1, hf, pR, hcE, hvE, if_neg hb1, if_neg hn2, if_neg hn1, if_pos c_110])
                          exact ⟨hv, fun k h1 h2 h3 => by rw [gs_other h1, gs_other h3, gs_other h2]; exact iv_3 k h1 h2 h3, by simp [gs, iv_4], fun z => absurd z (nI_m1 (by omega))⟩) hP hS dX5_parse_115
              · skip
                refine lv_iconst (v := (-1)) hx hb dX5_parse_100 (by decide) ?_
                exact hret _ _ _ _ _ _ (by
                        have hf : 16 - i = (16 - (i + 1)) + 1 := (by omega)
                        have hn2 : ¬ (ve = ce + 1) := c_52
                        have hv : (-1 : Int32) = pR (G 11) T 16 0 := (by rw [iv_2.1, hf, pR, hcE, hvE, if_neg hb1, if_neg hn2, if_pos c_97])
                        have hw : pW (G 11) T 16 0 = i + 1 := (by rw [iv_2.2, hf, pW, hcE, hvE, if_neg hb1, if_neg hn2, if_pos c_97]; omega)
                        refine ⟨hv, fun k h1 h2 h3 => by rw [gs_other h1, gs_other h3, gs_other h2]; exact iv_3 k h1 h2 h3, by simp [gs, iv_4], fun _ => ⟨by rw [hw]; simp [gs], by omega, fun t ht => ?_⟩⟩
                        by_cases e : t = i
                        · subst e
                          refine ⟨?_, ?_⟩
                          · rw [wc, ← iv_1.1, hcE]; simp [gs]
                          · rw [wv, ← iv_1.1, hcE, hvE]; simp [gs]
                        · have q := iv_5 t (by omega)
                          refine ⟨?_, ?_⟩
                          · simp [gs, e]; exact q.1
                          · simp [gs, e]; exact q.2) hP hS dX5_parse_101
            · skip
              refine lv_iload hx hb dX5_parse_55 (lv_at hl 5 rfl) ?_
              exact hret _ _ _ _ _ _ (by
                      have hf : 16 - i = (16 - (i + 1)) + 1 := (by omega)
                      have hv : nI ve = pR (G 11) T 16 0 := (by rw [iv_2.1, hf, pR, hcE, hvE, if_neg hb1, if_pos c_52])
                      exact ⟨hv, iv_3, iv_4, fun z => absurd z (nI_m1 (by omega))⟩) hP hS dX5_parse_57
          · skip
            refine lv_iload_n hx hb dX5_parse_32 rfl (lv_at hl 3 rfl) ?_
            exact hret _ _ _ _ _ _ (by
                    have hf : 16 - i = (16 - (i + 1)) + 1 := (by omega)
                    have hb1 : ce = a ∨ ¬ sgn (G 11) T ce 61 := Or.inr c_29
                    have hv : nI ce = pR (G 11) T 16 0 := (by rw [iv_2.1, hf, pR, hcE, if_pos hb1])
                    exact ⟨hv, iv_3, iv_4, fun z => absurd z (nI_m1 (by omega))⟩) hP hS dX5_parse_33
  exact lp_4 _ 0 0 G _ _ _ (Nat.lt_succ_self _) (Nat.zero_le _) (⟨rfl, by omega⟩) (⟨rfl, rfl⟩) (fun k h1 h2 h3 => rfl) (hT) (fun t h => absurd h (by omega)) hP hS (lv_sub hl [0,1,2] rfl)
