/-! The versions as they must be: a place with the numbers, what a walk of them wants. -/
def VOK (N : Nat → Int32) : Prop :=
  (∀ c, c < 12 → aVr N (nI c) (nI 0) (nI 0) = aCl N (nI c) (nI 0) ∧ aVr N (nI c) (nI 0) (nI 1) = aCl N (nI c) (nI 1) ∧ aVr N (nI c) (nI (pcN N c)) (nI 0) = -5) ∧
  (∀ c, c < 12 → ∀ p, 1 ≤ p → p < pcN N c → aVr N (nI c) (nI p) (nI 1) < aVr N (nI c) (nI (p - 1)) (nI 1) ∧ 0 < aVr N (nI c) (nI p) (nI 2) ∧ aVr N (nI c) (nI p) (nI 3) ≤ aVr N (nI c) (nI p) (nI 2)) ∧
  (∀ L, aCt N L (nI 7) = nI (cn (fun c => pcN N c - 1) 12)) ∧ cn (fun c => pcN N c - 1) 12 ≤ 40
set_option maxHeartbeats 4000000 in
set_option maxRecDepth 100000 in
theorem c_L_areVersions (l : Launch) {D : va_G} {τ : Nat → ClassId} {ad : Nat → Nat} (hI : kInj ad) {G : Nat → Nat → Int32} {N : Nat → Int32} {L : Nat} {Hs : Nat → Nat → Int32} (hN : RLN G N L Hs) (hv : VOK N) : kM l yL_areVersions cL_areVersions 6 (some .boolean) { frames := 4, cells := 0, slots := 0, locals := 94 } D τ ad [.ref (ad 7)] G (fun v G' => v = 1 ∧ G' = G) := by
  refine kMetZ (own := RL) (by decide) rfl (Nat.le_of_ble_eq_true rfl) ?_
  intro p9 e9 s9 m9 args9 below9 meth9 c9 Q9 X hx hb hP hS hret ls hl
  have hl : lv_has ls 6 [(0, .ref (ad 7))] := hl
  obtain ⟨hva, hvb, hvc, hvd⟩ := hv
  refine lv_iconst (v := nI 0) hx hb dL_areVersions_0 (by decide) ?_
  refine kist hx hb dL_areVersions_1 rfl hl (by decide) (kq_0i_1i rfl) (fun ls hl => ?_)
  refine lv_iconst (v := nI 1) hx hb dL_areVersions_2 (by decide) ?_
  refine kist hx hb dL_areVersions_3 rfl hl (by decide) (kq_0i1i_2i rfl) (fun ls hl => ?_)
  refine lv_iconst (v := nI 0) hx hb dL_areVersions_4 (by decide) ?_
  refine kist hx hb dL_areVersions_5 rfl hl (by decide) (kq_0i1i2i_3i rfl) (fun ls hl => ?_)
  have lp_6 : ∀ (d : Nat) (c old : Nat) (H : Heap) (locs : List Loc) (ls : Array Slot), (12 - c) < d → (c ≤ 12) → (old = cn (fun c => pcN N c - 1) c) → va_P D vwCl (kW τ ad G) H → va_S (kAd ad) s9.heap H locs → lv_has ls 6 [(0, .ref (ad 7)), (1, .int (nI old)), (2, .int (nI 1)), (3, .int (nI c))] → W p9 l e9 { frames := 4, cells := 0, slots := 0, locals := 94 } s9 m9 args9 below9 meth9 c9 H locs 0 0 Q9 (F0 m9 6 ls []) := by
    intro d
    induction d with
    | zero => exact fun _ _ _ _ _ hd => absurd hd (Nat.not_lt_zero _)
    | succ d ih_6 =>
      intro c old H locs ls hd iva_0 iva_1 hP hS hl
      have hb4 : old ≤ 12 * 9 := by
        rw [iva_1]
        exact Nat.le_trans (rm_mono (g := fun _ => 9) (fun c hc => by have := (rln_P hN (show c < 12 by omega)).2; omega)) (by rw [rm_const]; exact Nat.mul_le_mul_right 9 iva_0)
      refine lv_iload_n hx hb dL_areVersions_6 rfl (lv_at hl 3 rfl) ?_
      refine lv_bipush (v := nI 12) hx hb dL_areVersions_7 (by decide) ?_
      first
        | refine kic_ge (tgt := 167) hx hb dL_areVersions_9 (by decide) (by with_reducible rfl) (by with_reducible rfl) (by omega) (by omega) (fun c_9 => ?_) (fun c_9 => ?_)
        | refine lv_icmp_ge (tgt := 167) hx hb dL_areVersions_9 (by decide) (fun c_9 => ?_) (fun c_9 => ?_)
      · skip
        have e_9 := iva_1
        rw [show c = 12 by omega] at e_9
        refine lv_iload_n hx hb dL_areVersions_167 rfl (lv_at hl 2 rfl) ?_
        first
          | refine kif_eq (tgt := 191) hx hb dL_areVersions_168 (by decide) (fun c_168 => ?_) (fun c_168 => ?_)
          | refine lv_if_eq (tgt := 191) hx hb dL_areVersions_168 (by decide) (fun c_168 => ?_) (fun c_168 => ?_)
        · skip
          exact absurd c_168 (by decide)
        · skip
          refine lv_iload_n hx hb dL_areVersions_171 rfl (lv_at hl 1 rfl) ?_
          refine lv_aload_n hx hb dL_areVersions_172 rfl (lv_at hl 0 rfl) ?_
          refine lv_bipush (v := nI 7) hx hb dL_areVersions_173 (by decide) ?_
          refine kcV X hP hS (ln_count l hI hN (by decide)) oX v_L_13 ⟨Nat.le_of_ble_eq_true rfl, Nat.le_of_ble_eq_true rfl, rfl, rfl⟩ rfl rfl (Nat.le_of_ble_eq_true rfl) hl.1 ⟨Nat.zero_le _, Nat.zero_le _⟩ dL_areVersions_175 (fun r_175 G_175 H locs hR hP hS => ?_)
          obtain ⟨rfl, hG_175⟩ := hR
          rw [hG_175] at hP
          clear hG_175
          rw [hvc L]
          first
            | refine kic_ne (tgt := 191) hx hb dL_areVersions_178 (by decide) (by with_reducible rfl) (by with_reducible rfl) (by omega) (by omega) (fun c_178 => ?_) (fun c_178 => ?_)
            | refine lv_icmp_ne (tgt := 191) hx hb dL_areVersions_178 (by decide) (fun c_178 => ?_) (fun c_178 => ?_)
          · skip
            exact absurd c_178 (by omega)
          · skip
            refine lv_iload_n hx hb dL_areVersions_181 rfl (lv_at hl 1 rfl) ?_
            refine lv_bipush (v := nI 40) hx hb dL_areVersions_182 (by decide) ?_
            first
              | refine kic_gt (tgt := 191) hx hb dL_areVersions_184 (by decide) (by with_reducible rfl) (by with_reducible rfl) (by omega) (by omega) (fun c_184 => ?_) (fun c_184 => ?_)
              | refine lv_icmp_gt (tgt := 191) hx hb dL_areVersions_184 (by decide) (fun c_184 => ?_) (fun c_184 => ?_)
            · skip
              exact absurd c_184 (by omega)
            · skip
              refine lv_iconst (v := nI 1) hx hb dL_areVersions_187 (by decide) ?_
              refine lv_goto (tgt := 192) hx hb dL_areVersions_188 (by decide) ?_
              exact hret _ _ _ _ _ _ (by decide) (⟨rfl, rfl⟩) hP hS dL_areVersions_192
      · skip
        have hlt : c < 12 := c_9
        refine lv_iload_n hx hb dL_areVersions_12 rfl (lv_at hl 2 rfl) ?_
        first
          | refine kif_eq (tgt := 167) hx hb dL_areVersions_13 (by decide) (fun c_13 => ?_) (fun c_13 => ?_)
          | refine lv_if_eq (tgt := 167) hx hb dL_areVersions_13 (by decide) (fun c_13 => ?_) (fun c_13 => ?_)
        · skip
          exact absurd c_13 (by decide)
        · skip
          have hpc := (rln_P hN c_9).2
          have hq := hva c c_9
          have hr := hvb c c_9
          refine lv_aload_n hx hb dL_areVersions_16 rfl (lv_at hl 0 rfl) ?_
          refine lv_iload_n hx hb dL_areVersions_17 rfl (lv_at hl 3 rfl) ?_
          refine lv_iconst (v := nI 2) hx hb dL_areVersions_18 (by decide) ?_
          refine kcV X hP hS (ln_cell l hI hN) oX v_L_19 ⟨Nat.le_of_ble_eq_true rfl, Nat.le_of_ble_eq_true rfl, rfl, rfl⟩ rfl rfl (Nat.le_of_ble_eq_true rfl) hl.1 ⟨Nat.zero_le _, Nat.zero_le _⟩ dL_areVersions_19 (fun r_19 G_19 H locs hR hP hS => ?_)
          obtain ⟨rfl, hG_19⟩ := hR
          rw [hG_19] at hP
          clear hG_19
          rw [(rln_P hN c_9).1]
          refine kistW hx hb dL_areVersions_22 hl (by decide) (kq_0i1i2i3i_4i rfl) (fun ls hl => ?_)
          refine lv_iload hx hb dL_areVersions_24 (lv_at hl 4 rfl) ?_
          refine lv_iconst (v := nI 1) hx hb dL_areVersions_26 (by decide) ?_
          first
            | refine kic_lt (tgt := 79) hx hb dL_areVersions_27 (by decide) (by with_reducible rfl) (by with_reducible rfl) (by omega) (by omega) (fun c_27 => ?_) (fun c_27 => ?_)
            | refine lv_icmp_lt (tgt := 79) hx hb dL_areVersions_27 (by decide) (fun c_27 => ?_) (fun c_27 => ?_)
          · skip
            exact absurd c_27 (by omega)
          · skip
            refine lv_aload_n hx hb dL_areVersions_30 rfl (lv_at hl 0 rfl) ?_
            refine lv_iload_n hx hb dL_areVersions_31 rfl (lv_at hl 3 rfl) ?_
            refine lv_iconst (v := nI 0) hx hb dL_areVersions_32 (by decide) ?_
            refine lv_iconst (v := nI 0) hx hb dL_areVersions_33 (by decide) ?_
            refine kcV X hP hS (ln_version l hI hN) oX v_L_23 ⟨Nat.le_of_ble_eq_true rfl, Nat.le_of_ble_eq_true rfl, rfl, rfl⟩ rfl rfl (Nat.le_of_ble_eq_true rfl) hl.1 ⟨Nat.zero_le _, Nat.zero_le _⟩ dL_areVersions_34 (fun r_34 G_34 H locs hR hP hS => ?_)
            obtain ⟨rfl, hG_34⟩ := hR
            rw [hG_34] at hP
            clear hG_34
            refine lv_aload_n hx hb dL_areVersions_37 rfl (lv_at hl 0 rfl) ?_
            refine lv_iload_n hx hb dL_areVersions_38 rfl (lv_at hl 3 rfl) ?_
            refine lv_iconst (v := nI 0) hx hb dL_areVersions_39 (by decide) ?_
            refine kcV X hP hS (ln_cell l hI hN) oX v_L_19 ⟨Nat.le_of_ble_eq_true rfl, Nat.le_of_ble_eq_true rfl, rfl, rfl⟩ rfl rfl (Nat.le_of_ble_eq_true rfl) hl.1 ⟨Nat.zero_le _, Nat.zero_le _⟩ dL_areVersions_40 (fun r_40 G_40 H locs hR hP hS => ?_)
            obtain ⟨rfl, hG_40⟩ := hR
            rw [hG_40] at hP
            clear hG_40
            refine lv_icmp_ne (tgt := 79) hx hb dL_areVersions_43 (by decide) (fun c_43 => ?_) (fun c_43 => ?_)
            · skip
              exact absurd hq.1 c_43
            · skip
              refine lv_aload_n hx hb dL_areVersions_46 rfl (lv_at hl 0 rfl) ?_
              refine lv_iload_n hx hb dL_areVersions_47 rfl (lv_at hl 3 rfl) ?_
              refine lv_iconst (v := nI 0) hx hb dL_areVersions_48 (by decide) ?_
              refine lv_iconst (v := nI 1) hx hb dL_areVersions_49 (by decide) ?_
              refine kcV X hP hS (ln_version l hI hN) oX v_L_23 ⟨Nat.le_of_ble_eq_true rfl, Nat.le_of_ble_eq_true rfl, rfl, rfl⟩ rfl rfl (Nat.le_of_ble_eq_true rfl) hl.1 ⟨Nat.zero_le _, Nat.zero_le _⟩ dL_areVersions_50 (fun r_50 G_50 H locs hR hP hS => ?_)
              obtain ⟨rfl, hG_50⟩ := hR
              rw [hG_50] at hP
              clear hG_50
              refine lv_aload_n hx hb dL_areVersions_53 rfl (lv_at hl 0 rfl) ?_
              refine lv_iload_n hx hb dL_areVersions_54 rfl (lv_at hl 3 rfl) ?_
              refine lv_iconst (v := nI 1) hx hb dL_areVersions_55 (by decide) ?_
              refine kcV X hP hS (ln_cell l hI hN) oX v_L_19 ⟨Nat.le_of_ble_eq_true rfl, Nat.le_of_ble_eq_true rfl, rfl, rfl⟩ rfl rfl (Nat.le_of_ble_eq_true rfl) hl.1 ⟨Nat.zero_le _, Nat.zero_le _⟩ dL_areVersions_56 (fun r_56 G_56 H locs hR hP hS => ?_)
              obtain ⟨rfl, hG_56⟩ := hR
              rw [hG_56] at hP
              clear hG_56
              refine lv_icmp_ne (tgt := 79) hx hb dL_areVersions_59 (by decide) (fun c_59 => ?_) (fun c_59 => ?_)
              · skip
                exact absurd hq.2.1 c_59
              · skip
                refine lv_aload_n hx hb dL_areVersions_62 rfl (lv_at hl 0 rfl) ?_
                refine lv_iload_n hx hb dL_areVersions_63 rfl (lv_at hl 3 rfl) ?_
                refine lv_iload hx hb dL_areVersions_64 (lv_at hl 4 rfl) ?_
                refine lv_iconst (v := nI 0) hx hb dL_areVersions_66 (by decide) ?_
                refine kcV X hP hS (ln_version l hI hN) oX v_L_23 ⟨Nat.le_of_ble_eq_true rfl, Nat.le_of_ble_eq_true rfl, rfl, rfl⟩ rfl rfl (Nat.le_of_ble_eq_true rfl) hl.1 ⟨Nat.zero_le _, Nat.zero_le _⟩ dL_areVersions_67 (fun r_67 G_67 H locs hR hP hS => ?_)
                obtain ⟨rfl, hG_67⟩ := hR
                rw [hG_67] at hP
                clear hG_67
                refine lv_bipush (v := (-5)) hx hb dL_areVersions_70 (by decide) ?_
                refine lv_icmp_ne (tgt := 79) hx hb dL_areVersions_72 (by decide) (fun c_72 => ?_) (fun c_72 => ?_)
                · skip
                  exact absurd hq.2.2 c_72
                · skip
                  refine lv_iconst (v := nI 1) hx hb dL_areVersions_75 (by decide) ?_
                  refine lv_goto (tgt := 80) hx hb dL_areVersions_76 (by decide) ?_
                  refine kist hx hb dL_areVersions_80 rfl hl (by decide) (kq_0i1i2i3i4i_2i rfl) (fun ls hl => ?_)
                  refine lv_iconst (v := nI 1) hx hb dL_areVersions_81 (by decide) ?_
                  refine kistW hx hb dL_areVersions_82 hl (by decide) (kq_0i1i2i3i4i_5i rfl) (fun ls hl => ?_)
                  have lp_84 : ∀ (d : Nat) (p o2 : Nat) (H : Heap) (locs : List Loc) (ls : Array Slot), (pcN N c - p) < d → (1 ≤ p ∧ p ≤ pcN N c) → (o2 = old + (p - 1)) → va_P D vwCl (kW τ ad G) H → va_S (kAd ad) s9.heap H locs → lv_has ls 6 [(0, .ref (ad 7)), (1, .int (nI o2)), (2, .int (nI 1)), (3, .int (nI c)), (4, .int (nI (pcN N c))), (5, .int (nI p))] → W p9 l e9 { frames := 4, cells := 0, slots := 0, locals := 94 } s9 m9 args9 below9 meth9 c9 H locs 0 0 Q9 (F0 m9 84 ls []) := by
                    intro d
                    induction d with
                    | zero => exact fun _ _ _ _ _ hd => absurd hd (Nat.not_lt_zero _)
                    | succ d ih_84 =>
                      intro p o2 H locs ls hd ivb_0 ivb_1 hP hS hl
                      refine lv_iload hx hb dL_areVersions_84 (lv_at hl 5 rfl) ?_
                      refine lv_iload hx hb dL_areVersions_86 (lv_at hl 4 rfl) ?_
                      first
                        | refine kic_ge (tgt := 161) hx hb dL_areVersions_88 (by decide) (by with_reducible rfl) (by with_reducible rfl) (by omega) (by omega) (fun c_88 => ?_) (fun c_88 => ?_)
                        | refine lv_icmp_ge (tgt := 161) hx hb dL_areVersions_88 (by decide) (fun c_88 => ?_) (fun c_88 => ?_)
                      · skip
                        refine kinc (q := 3) hx hb dL_areVersions_161 hl rfl (by decide) (kq_0i1i2i3i4i5i_3i rfl) (fun ls hl => ?_)
                        refine lv_goto (tgt := 6) hx hb dL_areVersions_164 (by decide) ?_
                        exact ih_6 _ _ _ _ _ (by omega) (by omega) (by rw [ivb_1, show p = pcN N c by omega, cn, ← iva_1]) hP hS (lv_sub hl [0,1,2,3] rfl)
                      · skip
                        refine lv_iload_n hx hb dL_areVersions_91 rfl (lv_at hl 2 rfl) ?_
                        first
                          | refine kif_eq (tgt := 161) hx hb dL_areVersions_92 (by decide) (fun c_92 => ?_) (fun c_92 => ?_)
                          | refine lv_if_eq (tgt := 161) hx hb dL_areVersions_92 (by decide) (fun c_92 => ?_) (fun c_92 => ?_)
                        · skip
                          exact absurd c_92 (by decide)
                        · skip
                          refine lv_aload_n hx hb dL_areVersions_95 rfl (lv_at hl 0 rfl) ?_
                          refine lv_iload_n hx hb dL_areVersions_96 rfl (lv_at hl 3 rfl) ?_
                          refine lv_iload hx hb dL_areVersions_97 (lv_at hl 5 rfl) ?_
                          refine lv_iconst (v := nI 1) hx hb dL_areVersions_99 (by decide) ?_
                          refine kcV X hP hS (ln_version l hI hN) oX v_L_23 ⟨Nat.le_of_ble_eq_true rfl, Nat.le_of_ble_eq_true rfl, rfl, rfl⟩ rfl rfl (Nat.le_of_ble_eq_true rfl) hl.1 ⟨Nat.zero_le _, Nat.zero_le _⟩ dL_areVersions_100 (fun r_100 G_100 H locs hR hP hS => ?_)
                          obtain ⟨rfl, hG_100⟩ := hR
                          rw [hG_100] at hP
                          clear hG_100
                          refine lv_aload_n hx hb dL_areVersions_103 rfl (lv_at hl 0 rfl) ?_
                          refine lv_iload_n hx hb dL_areVersions_104 rfl (lv_at hl 3 rfl) ?_
                          refine lv_iload hx hb dL_areVersions_105 (lv_at hl 5 rfl) ?_
                          refine lv_iconst (v := nI 1) hx hb dL_areVersions_107 (by decide) ?_
                          first
                            | refine ksub hx hb dL_areVersions_108 (by with_reducible rfl) (by with_reducible rfl) (by omega) ?_
                            | refine lv_isub hx hb dL_areVersions_108 ?_
                          refine lv_iconst (v := nI 1) hx hb dL_areVersions_109 (by decide) ?_
                          refine kcV X hP hS (ln_version l hI hN) oX v_L_23 ⟨Nat.le_of_ble_eq_true rfl, Nat.le_of_ble_eq_true rfl, rfl, rfl⟩ rfl rfl (Nat.le_of_ble_eq_true rfl) hl.1 ⟨Nat.zero_le _, Nat.zero_le _⟩ dL_areVersions_110 (fun r_110 G_110 H locs hR hP hS => ?_)
                          obtain ⟨rfl, hG_110⟩ := hR
                          rw [hG_110] at hP
                          clear hG_110
                          first
                            | refine kic_ge (tgt := 150) hx hb dL_areVersions_113 (by decide) (by with_reducible rfl) (by with_reducible rfl) (by omega) (by omega) (fun c_113 => ?_) (fun c_113 => ?_)
                            | refine lv_icmp_ge (tgt := 150) hx hb dL_areVersions_113 (by decide) (fun c_113 => ?_) (fun c_113 => ?_)
                          · skip
                            exact absurd c_113 (Int32.not_le.mpr (hr p ivb_0.1 c_88).1)
                          · skip
                            refine lv_aload_n hx hb dL_areVersions_116 rfl (lv_at hl 0 rfl) ?_
                            refine lv_iload_n hx hb dL_areVersions_117 rfl (lv_at hl 3 rfl) ?_
                            refine lv_iload hx hb dL_areVersions_118 (lv_at hl 5 rfl) ?_
                            refine lv_iconst (v := nI 2) hx hb dL_areVersions_120 (by decide) ?_
                            refine kcV X hP hS (ln_version l hI hN) oX v_L_23 ⟨Nat.le_of_ble_eq_true rfl, Nat.le_of_ble_eq_true rfl, rfl, rfl⟩ rfl rfl (Nat.le_of_ble_eq_true rfl) hl.1 ⟨Nat.zero_le _, Nat.zero_le _⟩ dL_areVersions_121 (fun r_121 G_121 H locs hR hP hS => ?_)
                            obtain ⟨rfl, hG_121⟩ := hR
                            rw [hG_121] at hP
                            clear hG_121
                            refine lv_if_le (tgt := 150) hx hb dL_areVersions_124 (by decide) (fun c_124 => ?_) (fun c_124 => ?_)
                            · skip
                              exact absurd c_124 (Int32.not_le.mpr (hr p ivb_0.1 c_88).2.1)
                            · skip
                              refine lv_aload_n hx hb dL_areVersions_127 rfl (lv_at hl 0 rfl) ?_
                              refine lv_iload_n hx hb dL_areVersions_128 rfl (lv_at hl 3 rfl) ?_
                              refine lv_iload hx hb dL_areVersions_129 (lv_at hl 5 rfl) ?_
                              refine lv_iconst (v := nI 3) hx hb dL_areVersions_131 (by decide) ?_
                              refine kcV X hP hS (ln_version l hI hN) oX v_L_23 ⟨Nat.le_of_ble_eq_true rfl, Nat.le_of_ble_eq_true rfl, rfl, rfl⟩ rfl rfl (Nat.le_of_ble_eq_true rfl) hl.1 ⟨Nat.zero_le _, Nat.zero_le _⟩ dL_areVersions_132 (fun r_132 G_132 H locs hR hP hS => ?_)
                              obtain ⟨rfl, hG_132⟩ := hR
                              rw [hG_132] at hP
                              clear hG_132
                              refine lv_aload_n hx hb dL_areVersions_135 rfl (lv_at hl 0 rfl) ?_
                              refine lv_iload_n hx hb dL_areVersions_136 rfl (lv_at hl 3 rfl) ?_
                              refine lv_iload hx hb dL_areVersions_137 (lv_at hl 5 rfl) ?_
                              refine lv_iconst (v := nI 2) hx hb dL_areVersions_139 (by decide) ?_
                              refine kcV X hP hS (ln_version l hI hN) oX v_L_23 ⟨Nat.le_of_ble_eq_true rfl, Nat.le_of_ble_eq_true rfl, rfl, rfl⟩ rfl rfl (Nat.le_of_ble_eq_true rfl) hl.1 ⟨Nat.zero_le _, Nat.zero_le _⟩ dL_areVersions_140 (fun r_140 G_140 H locs hR hP hS => ?_)
                              obtain ⟨rfl, hG_140⟩ := hR
                              rw [hG_140] at hP
                              clear hG_140
                              first
                                | refine kic_gt (tgt := 150) hx hb dL_areVersions_143 (by decide) (by with_reducible rfl) (by with_reducible rfl) (by omega) (by omega) (fun c_143 => ?_) (fun c_143 => ?_)
                                | refine lv_icmp_gt (tgt := 150) hx hb dL_areVersions_143 (by decide) (fun c_143 => ?_) (fun c_143 => ?_)
                              · skip
                                exact absurd c_143 (Int32.not_lt.mpr (hr p ivb_0.1 c_88).2.2)
                              · skip
                                refine lv_iconst (v := nI 1) hx hb dL_areVersions_146 (by decide) ?_
                                refine lv_goto (tgt := 151) hx hb dL_areVersions_147 (by decide) ?_
                                refine kist hx hb dL_areVersions_151 rfl hl (by decide) (kq_0i1i2i3i4i5i_2i rfl) (fun ls hl => ?_)
                                refine kinc (q := 1) hx hb dL_areVersions_152 hl rfl (by decide) (kq_0i1i2i3i4i5i_1i rfl) (fun ls hl => ?_)
                                refine kinc (q := 5) hx hb dL_areVersions_155 hl rfl (by decide) (kq_0i1i2i3i4i5i_5i rfl) (fun ls hl => ?_)
                                refine lv_goto (tgt := 84) hx hb dL_areVersions_158 (by decide) ?_
                                exact ih_84 _ _ _ _ _ (by omega) (by omega) (by omega) hP hS (lv_sub hl [0,1,2,3,4,5] rfl)
                  exact lp_84 _ 1 old _ _ _ (Nat.lt_succ_self _) (⟨Nat.le_refl _, hpc.1⟩) (rfl) hP hS (lv_sub hl [0,1,2,3,4,5] rfl)
  exact lp_6 _ 0 0 _ _ _ (Nat.lt_succ_self _) (Nat.zero_le _) (rfl) hP hS (lv_sub hl [0,1,2,3] rfl)
