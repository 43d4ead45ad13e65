
theorem pR_b (S : Nat → Int32) (T : Nat) : ∀ k a, a ≤ T → pR S T k a = -1 ∨ ∃ w, w ≤ T + 1 ∧ pR S T k a = nI w := by
  intro k
  induction k with
  | zero => intro a _; exact Or.inr ⟨T, by omega, rfl⟩
  | succ k ih =>
    intro a ha
    have b1 := eon_b S T a 2
    have b2 := eon_b S T (cE S T a + 1) 4
    have e1 : cE S T a = eon S T a 2 := rfl
    have e2 : vE S T a = eon S T (cE S T a + 1) 4 := rfl
    rw [pR]
    split
    · exact Or.inr ⟨_, by omega, rfl⟩
    · split
      · exact Or.inr ⟨_, by omega, rfl⟩
      · split
        · exact Or.inl rfl
        · split
          · exact Or.inr ⟨_, by omega, rfl⟩
          · exact ih _ (by omega)
theorem fo_t {S : Nat → Int32} {T : Nat} (hT : T ≤ 60) (h : (if pR S T 16 0 = -1 then (-5 : Int32) else pR S T 16 0) = -5) : pR S T 16 0 = -1 := by
  rcases pR_b S T 16 0 (Nat.zero_le _) with q | ⟨w, hw, q⟩
  · exact q
  · rw [q, if_neg (nI_m1 (by omega))] at h
    exact absurd h (by
      intro z
      have := congrArg Int32.toInt z
      rw [nI_toInt (by omega)] at this
      exact absurd this (by
        rw [show (-5 : Int32).toInt = -5 from rfl]; omega))
theorem recM_0 {G : Nat → Nat → Int32} {L f : Nat} (h : f ≠ 2) : recM G L 0 f = G 0 f := by
  unfold recM
  rw [gs_row h]
  unfold kpF
  rw [if_neg (by omega)]
  by_cases e : L = 4
  · rw [if_pos e, gs_row h]
    unfold shF2
    rw [if_neg (by omega)]
  · rw [if_neg e]
/-- the writes of a text put into a reader, the first of them -/
def wrN (N : Nat → Int32) (r : Nat) (S : Nat → Int32) (T : Nat) : Nat → Nat → Int32
  | 0 => N
  | i + 1 => upd (upd (wrN N r S T i) (9 + 20 * r + 4) (wrN N r S T i (9 + 20 * r + 4) ||| bt (wc S T i).toNatClampNeg)) (9 + 20 * r + (8 + (wc S T i).toNatClampNeg)) (wv S T i)
set_option maxHeartbeats 4000000 in
set_option maxRecDepth 100000 in
theorem c_X7_readWrites (l : Launch) {D : va_G} {τ : Nat → ClassId} {ad : Nat → Nat} (hI : kInj ad) {G : Nat → Nat → Int32} {n T L : Nat} {x : Int32} (hT : G 0 5 = nI T) (hT6 : T ≤ 60) (hn : G 1 2 = nI n) (hn4 : n ≤ 40) (hL : G 0 2 = nI L) (hL4 : L ≤ 4) : kM l yX7_readWrites cX7_readWrites 4 (some .int) { frames := 5, cells := 0, slots := 0, locals := 107 } D τ ad [.ref (ad 0), .int x] G (fun v G' => rdP n x (v = -1 ∧ G' = G) (fun r => if pR (G 3) T 16 0 = -1 then (if (∀ t, t < pW (G 3) T 16 0 → nI 0 ≤ wc (G 3) T t ∧ wc (G 3) T t ≤ nI 11) then (if G 1 (9 + 20 * r + 2) = 0 then v = sm (fun k => (wrN (G 1) r (G 3) T (pW (G 3) T 16 0)) (9 + 20 * r + 4) >>> (nI k &&& 31) &&& nI 1) 12 ∧ ∃ Gf, frF G Gf ∧ G' = rw1 (recM Gf L) (wrN (G 1) r (G 3) T (pW (G 3) T 16 0)) else v = -4 ∧ frF G G') else v = -1 ∧ frF G G') else v = -100 - pR (G 3) T 16 0 ∧ frF G G')) := by
  refine kMet (own := RX7) (by decide) rfl (Nat.le_of_ble_eq_true rfl) ?_
  intro p9 e9 s9 m9 args9 below9 meth9 c9 Q9 X hx hb hP hS hret ls hl
  have hPs := hP
  have hl : lv_has ls 4 [(0, .ref (ad 0)), (1, .int x)] := hl
  refine lv_aload_n hx hb dX7_readWrites_0 rfl (lv_at hl 0 rfl) ?_
  refine lv_iload_n hx hb dX7_readWrites_1 rfl (lv_at hl 1 rfl) ?_
  refine kcV X hP hS (c_X7_isReader l hI) oJ v_X7_92 ⟨Nat.le_of_ble_eq_true rfl, Nat.le_of_ble_eq_true rfl, rfl, rfl⟩ rfl rfl (Nat.le_of_ble_eq_true rfl) hl.1 ⟨Nat.zero_le _, Nat.zero_le _⟩ dX7_readWrites_2 (fun r_2 G_2 H locs hR hP hS => ?_)
  obtain ⟨rfl, hG_2⟩ := hR
  rw [hG_2] at hP
  clear hG_2
  first
    | refine kif_ne (tgt := 10) hx hb dX7_readWrites_5 (by decide) (fun c_5 => ?_) (fun c_5 => ?_)
    | refine lv_if_ne (tgt := 10) hx hb dX7_readWrites_5 (by decide) (fun c_5 => ?_) (fun c_5 => ?_)
  · skip
    obtain ⟨r, hr, rfl⟩ := isR_yes hn4 (by rw [hn] at c_5; exact c_5)
    refine lv_aload_n hx hb dX7_readWrites_10 rfl (lv_at hl 0 rfl) ?_
    refine kcV X hP hS (c_X7_faultOf l hI hT hT6) oJ v_X7_169 ⟨Nat.le_of_ble_eq_true rfl, Nat.le_of_ble_eq_true rfl, rfl, rfl⟩ rfl rfl (Nat.le_of_ble_eq_true rfl) hl.1 ⟨Nat.zero_le _, Nat.zero_le _⟩ dX7_readWrites_11 (fun r_11 G_11 H locs hR hP hS => ?_)
    obtain ⟨rfl, hfr, hok0⟩ := hR
    have e1 : G_11 1 = G 1 := hfr.1 1 (by omega) (by omega) (by omega)
    refine kist hx hb dX7_readWrites_14 rfl hl (by decide) (kp_2_2 rfl) (fun ls hl => ?_)
    refine lv_iload_n hx hb dX7_readWrites_15 rfl (lv_at hl 2 rfl) ?_
    refine lv_bipush (v := (-5)) hx hb dX7_readWrites_16 (by decide) ?_
    first
      | refine kic_eq (tgt := 26) hx hb dX7_readWrites_18 (by decide) (by with_reducible rfl) (by with_reducible rfl) (by omega) (by omega) (fun c_18 => ?_) (fun c_18 => ?_)
      | refine lv_icmp_eq (tgt := 26) hx hb dX7_readWrites_18 (by decide) (fun c_18 => ?_) (fun c_18 => ?_)
    · skip
      have hp := fo_t hT6 c_18
      obtain ⟨hw8, hw16, hok⟩ := hok0 hp
      refine lv_iconst (v := nI 0) hx hb dX7_readWrites_26 (by decide) ?_
      refine kist hx hb dX7_readWrites_27 rfl hl (by decide) (kp_3_3 rfl) (fun ls hl => ?_)
      have lp_28 : ∀ (d : Nat) (i : Nat) (H : Heap) (locs : List Loc) (ls : Array Slot), ((pW (G 3) T 16 0) - i) < d → (i ≤ (pW (G 3) T 16 0)) → (∀ t, t < i → nI 0 ≤ wc (G 3) T t ∧ wc (G 3) T t ≤ nI 11) → va_P D vwCl (kW τ ad G_11) H → va_S (kAd ad) s9.heap H locs → lv_has ls 4 [(0, .ref (ad 0)), (1, .int (nI r)), (2, .int (if pR (G 3) T 16 0 = -1 then -5 else pR (G 3) T 16 0)), (3, .int (nI i))] → W p9 l e9 { frames := 5, cells := 0, slots := 0, locals := 107 } s9 m9 args9 below9 meth9 c9 H locs 0 0 Q9 (F0 m9 28 ls []) := by
        intro d
        induction d with
        | zero => exact fun _ _ _ _ hd => absurd hd (Nat.not_lt_zero _)
        | succ d ih_28 =>
          intro i H locs ls hd iv_0 iv_1 hP hS hl
          refine lv_iload_n hx hb dX7_readWrites_28 rfl (lv_at hl 3 rfl) ?_
          refine lv_aload_n hx hb dX7_readWrites_29 rfl (lv_at hl 0 rfl) ?_
          refine kget X hP oJ g_X7_160 (congrArg (fun z => some (Value.int z)) hw8) dX7_readWrites_30 ?_
          first
            | refine kic_ge (tgt := 56) hx hb dX7_readWrites_33 (by decide) (by with_reducible rfl) (by with_reducible rfl) (by omega) (by omega) (fun c_33 => ?_) (fun c_33 => ?_)
            | refine lv_icmp_ge (tgt := 56) hx hb dX7_readWrites_33 (by decide) (fun c_33 => ?_) (fun c_33 => ?_)
          · skip
            have hval : (∀ t, t < pW (G 3) T 16 0 → nI 0 ≤ wc (G 3) T t ∧ wc (G 3) T t ≤ nI 11) := fun t ht => iv_1 t (by omega)
            refine lv_aload_n hx hb dX7_readWrites_56 rfl (lv_at hl 0 rfl) ?_
            refine lv_iload_n hx hb dX7_readWrites_57 rfl (lv_at hl 1 rfl) ?_
            refine kcV X hP hS (c_X7_isOpen l hI (by omega)) oJ v_X7_64 ⟨Nat.le_of_ble_eq_true rfl, Nat.le_of_ble_eq_true rfl, rfl, rfl⟩ rfl rfl (Nat.le_of_ble_eq_true rfl) hl.1 ⟨Nat.zero_le _, Nat.zero_le _⟩ dX7_readWrites_58 (fun r_58 G_58 H locs hR hP hS => ?_)
            obtain ⟨rfl, hG_58⟩ := hR
            rw [hG_58] at hP
            clear hG_58
            rw [e1]
            first
              | refine kif_ne (tgt := 67) hx hb dX7_readWrites_61 (by decide) (fun c_61 => ?_) (fun c_61 => ?_)
              | refine lv_if_ne (tgt := 67) hx hb dX7_readWrites_61 (by decide) (fun c_61 => ?_) (fun c_61 => ?_)
            · skip
              refine lv_aload_n hx hb dX7_readWrites_67 rfl (lv_at hl 0 rfl) ?_
              refine kcVv X hP hS (c_X7_records l hI (L := L) (by rw [hfr.2 2 (by omega) (by omega) (by omega)]; exact hL) hL4) oJ v_X7_51 ⟨Nat.le_of_ble_eq_true rfl, Nat.le_of_ble_eq_true rfl, rfl, rfl⟩ rfl rfl (Nat.le_of_ble_eq_true rfl) hl.1 ⟨Nat.zero_le _, Nat.zero_le _⟩ dX7_readWrites_68 (fun G_68 H locs hR hP hS => ?_)
              subst hR
              refine lv_iconst (v := nI 0) hx hb dX7_readWrites_71 (by decide) ?_
              refine kist hx hb dX7_readWrites_72 rfl hl (by decide) (kp_4_3 rfl) (fun ls hl => ?_)
              have lp_73 : ∀ (d : Nat) (i : Nat) (H : Heap) (locs : List Loc) (ls : Array Slot), ((pW (G 3) T 16 0) - i) < d → (i ≤ (pW (G 3) T 16 0)) → va_P D vwCl (kW τ ad (rw1 (recM G_11 L) (wrN (G 1) r (G 3) T i))) H → va_S (kAd ad) s9.heap H locs → lv_has ls 4 [(0, .ref (ad 0)), (1, .int (nI r)), (2, .int (if pR (G 3) T 16 0 = -1 then -5 else pR (G 3) T 16 0)), (3, .int (nI i))] → W p9 l e9 { frames := 5, cells := 0, slots := 0, locals := 107 } s9 m9 args9 below9 meth9 c9 H locs 0 0 Q9 (F0 m9 73 ls []) := by
                intro d
                induction d with
                | zero => exact fun _ _ _ _ hd => absurd hd (Nat.not_lt_zero _)
                | succ d ih_73 =>
                  intro i H locs ls hd jv_0 hP hS hl
                  refine lv_iload_n hx hb dX7_readWrites_73 rfl (lv_at hl 3 rfl) ?_
                  refine lv_aload_n hx hb dX7_readWrites_74 rfl (lv_at hl 0 rfl) ?_
                  refine kget X hP oJ g_X7_160 (congrArg (fun z => some (Value.int z)) (show (rw1 (recM G_11 L) (wrN (G 1) r (G 3) T i)) 0 8 = nI (pW (G 3) T 16 0) from by rw [rw1_o (by omega), recM_0 (by omega)]; exact hw8)) dX7_readWrites_75 ?_
                  first
                    | refine kic_ge (tgt := 104) hx hb dX7_readWrites_78 (by decide) (by with_reducible rfl) (by with_reducible rfl) (by omega) (by omega) (fun c_78 => ?_) (fun c_78 => ?_)
                    | refine lv_icmp_ge (tgt := 104) hx hb dX7_readWrites_78 (by decide) (fun c_78 => ?_) (fun c_78 => ?_)
                  · skip
                    refine lv_aload_n hx hb dX7_readWrites_104 rfl (lv_at hl 0 rfl) ?_
                    refine lv_iload_n hx hb dX7_readWrites_105 rfl (lv_at hl 1 rfl) ?_
                    refine lv_iconst (v := nI 4) hx hb dX7_readWrites_106 (by decide) ?_
                    refine kcV X hP hS (c_X7_ofR l hI (by omega)) oJ v_X7_32 ⟨Nat.le_of_ble_eq_true rfl, Nat.le_of_ble_eq_true rfl, rfl, rfl⟩ rfl rfl (Nat.le_of_ble_eq_true rfl) hl.1 ⟨Nat.zero_le _, Nat.zero_le _⟩ dX7_readWrites_107 (fun r_107 G_107 H locs hR hP hS => ?_)
                    obtain ⟨rfl, hG_107⟩ := hR
                    rw [hG_107] at hP
                    clear hG_107
                    rw [rw1_1]
                    refine kcS X hP hS (c_X7_ones l hI) v_X7_117 ⟨Nat.le_of_ble_eq_true rfl, Nat.le_of_ble_eq_true rfl, rfl, rfl⟩ rfl rfl (Nat.le_of_ble_eq_true rfl) hl.1 ⟨Nat.zero_le _, Nat.zero_le _⟩ dX7_readWrites_110 (fun r_110 G_110 H locs hR hP hS => ?_)
                    obtain ⟨rfl, hG_110⟩ := hR
                    rw [hG_110] at hP
                    clear hG_110
                    exact hret _ _ _ _ _ _ (rdP_h hr hn4 (by rw [if_pos hp, if_pos hval, if_pos c_61, show (pW (G 3) T 16 0) = i by omega]; exact ⟨rfl, _, hfr, rfl⟩)) hP hS dX7_readWrites_113
                  · skip
                    obtain ⟨q, hq1, hq⟩ := isC_yes (hval i (by omega))
                    refine lv_aload_n hx hb dX7_readWrites_81 rfl (lv_at hl 0 rfl) ?_
                    refine lv_iload_n hx hb dX7_readWrites_82 rfl (lv_at hl 1 rfl) ?_
                    refine lv_aload_n hx hb dX7_readWrites_83 rfl (lv_at hl 0 rfl) ?_
                    refine kget X hP oJ g_X7_19 rfl dX7_readWrites_84 ?_
                    refine lv_iload_n hx hb dX7_readWrites_87 rfl (lv_at hl 3 rfl) ?_
                    refine kiald X hP aJ4 (by omega) dX7_readWrites_88 ?_
                    rw [rw1_o (by omega), recM_o (by omega) (by omega), (hok i (by omega)).1, hq]
                    refine lv_aload_n hx hb dX7_readWrites_89 rfl (lv_at hl 0 rfl) ?_
                    refine kget X hP oJ g_X7_22 rfl dX7_readWrites_90 ?_
                    refine lv_iload_n hx hb dX7_readWrites_93 rfl (lv_at hl 3 rfl) ?_
                    refine kiald X hP aJ5 (by omega) dX7_readWrites_94 ?_
                    rw [rw1_o (by omega), recM_o (by omega) (by omega), (hok i (by omega)).2]
                    refine kcVv X hP hS (c_X7_writes l hI (by omega) hq1) oJ v_X7_114 ⟨Nat.le_of_ble_eq_true rfl, Nat.le_of_ble_eq_true rfl, rfl, rfl⟩ rfl rfl (Nat.le_of_ble_eq_true rfl) hl.1 ⟨Nat.zero_le _, Nat.zero_le _⟩ dX7_readWrites_95 (fun G_95 H locs hR hP hS => ?_)
                    subst hR
                    first
                      | refine kinc (q := 3) hx hb dX7_readWrites_98 hl rfl (by decide) (kp_4_3 rfl) (fun ls hl => ?_)
                      | refine kincG (q := 3) hx hb dX7_readWrites_98 hl rfl (by decide) (kp_4_3 rfl) (fun ls hl => ?_)
                    refine lv_goto (tgt := 73) hx hb dX7_readWrites_101 (by decide) ?_
                    rw [rw1_1, rw1_s, rw1_s] at hP
                    have hws : (wrN (G 1) r (G 3) T (i + 1)) = upd (upd (wrN (G 1) r (G 3) T i) (9 + 20 * r + 4) ((wrN (G 1) r (G 3) T i) (9 + 20 * r + 4) ||| bt q)) (9 + 20 * r + (8 + q)) (wv (G 3) T i) := by rw [wrN, hq, nI_clamp (by omega)]
                    rw [← hws] at hP
                    exact ih_73 _ _ _ _ (by omega) (by omega) hP hS (lv_sub hl [0,1,2,3] rfl)
              rw [← rw1_id (recM G_11 L), recM_1, e1] at hP
              exact lp_73 _ 0 _ _ _ (Nat.lt_succ_self _) (Nat.zero_le _) hP hS (lv_sub hl [0,1,2,3] rfl)
            · skip
              refine lv_bipush (v := (-4)) hx hb dX7_readWrites_64 (by decide) ?_
              exact hret _ _ _ _ _ _ (rdP_h hr hn4 (by rw [if_pos hp, if_pos hval, if_neg c_61]; exact ⟨rfl, hfr⟩)) hP hS dX7_readWrites_66
          · skip
            refine lv_aload_n hx hb dX7_readWrites_36 rfl (lv_at hl 0 rfl) ?_
            refine kget X hP oJ g_X7_19 rfl dX7_readWrites_37 ?_
            refine lv_iload_n hx hb dX7_readWrites_40 rfl (lv_at hl 3 rfl) ?_
            refine kiald X hP aJ4 (by omega) dX7_readWrites_41 ?_
            rw [(hok i (by omega)).1]
            refine kcS X hP hS (c_X7_isCell l hI) v_X7_108 ⟨Nat.le_of_ble_eq_true rfl, Nat.le_of_ble_eq_true rfl, rfl, rfl⟩ rfl rfl (Nat.le_of_ble_eq_true rfl) hl.1 ⟨Nat.zero_le _, Nat.zero_le _⟩ dX7_readWrites_42 (fun r_42 G_42 H locs hR hP hS => ?_)
            obtain ⟨rfl, hG_42⟩ := hR
            rw [hG_42] at hP
            clear hG_42
            first
              | refine kif_ne (tgt := 50) hx hb dX7_readWrites_45 (by decide) (fun c_45 => ?_) (fun c_45 => ?_)
              | refine lv_if_ne (tgt := 50) hx hb dX7_readWrites_45 (by decide) (fun c_45 => ?_) (fun c_45 => ?_)
            · skip
              first
                | refine kinc (q := 3) hx hb dX7_readWrites_50 hl rfl (by decide) (kp_4_3 rfl) (fun ls hl => ?_)
                | refine kincG (q := 3) hx hb dX7_readWrites_50 hl rfl (by decide) (kp_4_3 rfl) (fun ls hl => ?_)
              refine lv_goto (tgt := 28) hx hb dX7_readWrites_53 (by decide) ?_
              exact ih_28 _ _ _ _ (by omega) (by omega) (fun t ht => by
                    by_cases e : t = i
                    · rw [e]; exact c_45
                    · exact iv_1 t (by omega)) hP hS (lv_sub hl [0,1,2,3] rfl)
            · skip
              refine lv_iconst (v := (-1)) hx hb dX7_readWrites_48 (by decide) ?_
              exact hret _ _ _ _ _ _ (rdP_h hr hn4 (by rw [if_pos hp, if_neg (fun z => c_45 (z i (by omega)))]; exact ⟨rfl, hfr⟩)) hP hS dX7_readWrites_49
      exact lp_28 _ 0 _ _ _ (Nat.lt_succ_self _) (Nat.zero_le _) (fun t ht => absurd ht (by omega)) hP hS (lv_sub hl [0,1,2,3] rfl)
    · skip
      have hp : ¬ pR (G 3) T 16 0 = -1 := fun z => c_18 (by rw [if_pos z])
      refine lv_bipush (v := (-100)) hx hb dX7_readWrites_21 (by decide) ?_
      refine lv_iload_n hx hb dX7_readWrites_23 rfl (lv_at hl 2 rfl) ?_
      refine lv_isub hx hb dX7_readWrites_24 ?_
      exact hret _ _ _ _ _ _ (rdP_h hr hn4 (by rw [if_neg hp, if_neg hp]; exact ⟨rfl, hfr⟩)) hP hS dX7_readWrites_25
  · skip
    have hms := isR_no hn4 (by rw [hn] at c_5; exact c_5)
    refine lv_iconst (v := (-1)) hx hb dX7_readWrites_8 (by decide) ?_
    exact hret _ _ _ _ _ _ (rdP_m hms ⟨rfl, rfl⟩) hP hS dX7_readWrites_9
