
theorem hsR_yes {n : Nat} {x : Int32} (hn : n ≤ 40) (h : 0 ≤ x ∧ x < nI n) : ∃ r, r < n ∧ x = nI r := by
  obtain ⟨r, h1, rfl⟩ := nI_of (x := x) (Int32.not_lt.mpr h.1)
  exact ⟨r, (nI_ltI h1 (by omega)).mp h.2, rfl⟩
theorem hsR_no {n : Nat} {x : Int32} (hn : n ≤ 40) (h : ¬ (0 ≤ x ∧ x < nI n)) : ∀ r, r < n → ¬ x = nI r := by
  intro r hr e
  apply h
  rw [e]
  exact ⟨nI_le (a := 0) (by omega) (by omega), (nI_ltI (by omega) (by omega)).mpr hr⟩
theorem rcR_0 {G Gr : Nat → Nat → Int32} {pi : Nat → Nat} {L n k : Nat} (h : rcR G Gr pi L n k) (hL4 : L ≤ 4) (hne : ∀ t, t < 4 → pi t ≠ 0) : ∀ q, q ≠ 8 → q ≠ 9 → q < 175 → Gr q = G q := by
  intro q h8 h9 hq
  have := rotP_all (L := L) (Z := fun q => q ≠ 0) hne (rotL_lt hL4)
  exact h.2.2.1 q h8 h9 (Or.inl (by unfold sB; omega))
set_option maxHeartbeats 4000000 in
set_option maxRecDepth 100000 in
theorem c_X3_numberOfWrites (l : Launch) {D : va_G} {τ : Nat → ClassId} {ad : Nat → Nat} (hI : kInj ad) {G : Nat → Nat → Int32} {j r : Nat} (hj : j < 7) (hr : r < 40) : kM l yX3_numberOfWrites cX3_numberOfWrites 1 (some .int) { frames := 1, cells := 0, slots := 0, locals := 20 } D τ ad [.ref (ad (rN j r))] G (fun v G' => v = bcF (G (rN j r) 5) ∧ G' = G) := by
  refine kMet (own := RX3) (by decide) rfl (Nat.le_of_ble_eq_true rfl) ?_
  intro p9 e9 s9 m9 args9 below9 meth9 c9 Q9 X hx hb hP hS hret ls hl
  have hPs := hP
  have hl : lv_has ls 1 [(0, .ref (ad (rN j r)))] := hl
  refine lv_aload_n hx hb dX3_numberOfWrites_0 rfl (lv_at hl 0 rfl) ?_
  refine kget X hP (oR (by first | assumption | omega) (by first | assumption | omega)) g_X3_28 rfl dX3_numberOfWrites_1 ?_
  refine kcS2 X hP hS (c_J6_bitCount_0f7a4 l hI) (n := 1) ⟨kWs_of 485 (by decide +kernel) rfl, mw_J6_bitCount_0f7a4.2.1, mw_J6_bitCount_0f7a4.2.2, mw_J6_bitCount_0f7a4.1, by decide, by decide, by decide +kernel⟩ ⟨Nat.le_of_ble_eq_true rfl, Nat.le_of_ble_eq_true rfl, rfl, rfl⟩ rfl rfl (Nat.le_of_ble_eq_true rfl) hl.1 ⟨Nat.zero_le _, Nat.zero_le _⟩ dX3_numberOfWrites_4 (fun r_4 G_4 H locs hR hP hS => ?_)
  obtain ⟨rfl, hG_4⟩ := hR
  rw [hG_4] at hP
  clear hG_4
  exact hret _ _ _ _ _ _ (⟨rfl, rfl⟩) hP hS dX3_numberOfWrites_7

set_option maxHeartbeats 4000000 in
set_option maxRecDepth 100000 in
theorem c_X6_pay (l : Launch) {D : va_G} {τ : Nat → ClassId} {ad : Nat → Nat} (hI : kInj ad) {G : Nat → Nat → Int32} {n k L : Nat} {x y : Int32} {pi : Nat → Nat} (hL : G 8 1 = nI L) (hL4 : L ≤ 4) (hpi : ∀ t, t < 4 → G 9 t = nI (pi t) ∧ pi t < 7) (hne : ∀ t, t < 4 → pi t ≠ 0) (hn : G (sB 0) 6 = nI n) (hn4 : n ≤ 40) (hk : G (sB 0) 7 = nI k) (hk4 : k ≤ 40) (hz : ∀ r, r < n → G (rN 0 r) 8 = 0 ∨ G (rN 0 r) 8 = 1) (hy : G (sB 0) 9 = 0 ∨ G (sB 0) 9 = 1) : kM l yX6_pay cX6_pay 4 (some .int) { frames := 4, cells := 0, slots := 0, locals := 104 } D τ ad [.ref (ad 7), .int x, .int y] G (fun v G' => rdP n x (v = -1 ∧ G' = G) (fun r => if nI 1 ≤ y ∧ y ≤ nI 9999 then (if G (rN 0 r) 1 = 0 then (if nI 9999 < G (rN 0 r) 3 + y then v = -3 ∧ G' = G else v = G (rN 0 r) 3 + y ∧ ∃ Gr, rcR G Gr pi L n k ∧ G' = gs Gr (rN 0 r) 3 (G (rN 0 r) 3 + y)) else v = -4 ∧ G' = G) else v = -2 ∧ G' = G)) := by
  refine kMet (own := RX6) (by decide) rfl (Nat.le_of_ble_eq_true rfl) ?_
  intro p9 e9 s9 m9 args9 below9 meth9 c9 Q9 X hx hb hP hS hret ls hl
  have hPs := hP
  have hl : lv_has ls 4 [(0, .ref (ad 7)), (1, .int x), (2, .int y)] := hl
  refine lv_aload_n hx hb dX6_pay_0 rfl (lv_at hl 0 rfl) ?_
  refine kget X hP oX g_X6_12 rfl dX6_pay_1 ?_
  refine lv_iload_n hx hb dX6_pay_4 rfl (lv_at hl 1 rfl) ?_
  refine kcV X hP hS (c_X4_hasReader l hI (j := 0) (by omega)) (oS (j := 0) (by omega)) v_X6_51 ⟨Nat.le_of_ble_eq_true rfl, Nat.le_of_ble_eq_true rfl, rfl, rfl⟩ rfl rfl (Nat.le_of_ble_eq_true rfl) hl.1 ⟨Nat.zero_le _, Nat.zero_le _⟩ dX6_pay_5 (fun r_5 G_5 H locs hR hP hS => ?_)
  obtain ⟨rfl, hG_5⟩ := hR
  rw [hG_5] at hP
  clear hG_5
  first
    | refine kif_ne (tgt := 13) hx hb dX6_pay_8 (by decide) (fun c_8 => ?_) (fun c_8 => ?_)
    | refine lv_if_ne (tgt := 13) hx hb dX6_pay_8 (by decide) (fun c_8 => ?_) (fun c_8 => ?_)
  · skip
    obtain ⟨r, hr, rfl⟩ := hsR_yes hn4 (by rw [hn] at c_8; exact c_8)
    refine lv_iload_n hx hb dX6_pay_13 rfl (lv_at hl 2 rfl) ?_
    refine lv_iconst (v := nI 1) hx hb dX6_pay_14 (by decide) ?_
    first
      | refine kic_lt (tgt := 25) hx hb dX6_pay_15 (by decide) (by with_reducible rfl) (by with_reducible rfl) (by omega) (by omega) (fun c_15 => ?_) (fun c_15 => ?_)
      | refine lv_icmp_lt (tgt := 25) hx hb dX6_pay_15 (by decide) (fun c_15 => ?_) (fun c_15 => ?_)
    · skip
      refine lv_bipush (v := (-2)) hx hb dX6_pay_25 (by decide) ?_
      exact hret _ _ _ _ _ _ (rdP_h hr hn4 (by rw [if_neg (fun z => Int32.not_lt.mpr z.1 c_15)]; exact ⟨rfl, rfl⟩)) hP hS dX6_pay_27
    · skip
      refine lv_iload_n hx hb dX6_pay_18 rfl (lv_at hl 2 rfl) ?_
      refine lv_sipush (v := nI 9999) hx hb dX6_pay_19 (by decide) ?_
      first
        | refine kic_le (tgt := 28) hx hb dX6_pay_22 (by decide) (by with_reducible rfl) (by with_reducible rfl) (by omega) (by omega) (fun c_22 => ?_) (fun c_22 => ?_)
        | refine lv_icmp_le (tgt := 28) hx hb dX6_pay_22 (by decide) (fun c_22 => ?_) (fun c_22 => ?_)
      · skip
        refine lv_aload_n hx hb dX6_pay_28 rfl (lv_at hl 0 rfl) ?_
        refine kget X hP oX g_X6_12 rfl dX6_pay_29 ?_
        refine kget X hP (oS (j := 0) (by omega)) g_X6_55 rfl dX6_pay_32 ?_
        refine lv_iload_n hx hb dX6_pay_35 rfl (lv_at hl 1 rfl) ?_
        refine kaald X hP (qR (j := 0) (by omega)) (by omega) rfl dX6_pay_36 ?_
        refine kast hx hb dX6_pay_37 rfl hl (by decide) (kp_3_3 rfl) (fun ls hl => ?_)
        refine lv_aload_n hx hb dX6_pay_38 rfl (lv_at hl 3 rfl) ?_
        refine kcV X hP hS (c_X3_isOpen l hI (j := 0) (by omega) (by omega)) (oR (j := 0) (r := r) (by omega) (by omega)) v_X6_59 ⟨Nat.le_of_ble_eq_true rfl, Nat.le_of_ble_eq_true rfl, rfl, rfl⟩ rfl rfl (Nat.le_of_ble_eq_true rfl) hl.1 ⟨Nat.zero_le _, Nat.zero_le _⟩ dX6_pay_39 (fun r_39 G_39 H locs hR hP hS => ?_)
        obtain ⟨rfl, hG_39⟩ := hR
        rw [hG_39] at hP
        clear hG_39
        first
          | refine kif_ne (tgt := 48) hx hb dX6_pay_42 (by decide) (fun c_42 => ?_) (fun c_42 => ?_)
          | refine lv_if_ne (tgt := 48) hx hb dX6_pay_42 (by decide) (fun c_42 => ?_) (fun c_42 => ?_)
        · skip
          refine lv_aload_n hx hb dX6_pay_48 rfl (lv_at hl 3 rfl) ?_
          refine kget X hP (oR (j := 0) (r := r) (by omega) (by omega)) g_X6_65 rfl dX6_pay_49 ?_
          refine lv_iload_n hx hb dX6_pay_52 rfl (lv_at hl 2 rfl) ?_
          refine lv_iadd hx hb dX6_pay_53 ?_
          refine lv_sipush (v := nI 9999) hx hb dX6_pay_54 (by decide) ?_
          first
            | refine kic_le (tgt := 63) hx hb dX6_pay_57 (by decide) (by with_reducible rfl) (by with_reducible rfl) (by omega) (by omega) (fun c_57 => ?_) (fun c_57 => ?_)
            | refine lv_icmp_le (tgt := 63) hx hb dX6_pay_57 (by decide) (fun c_57 => ?_) (fun c_57 => ?_)
          · skip
            refine lv_aload_n hx hb dX6_pay_63 rfl (lv_at hl 0 rfl) ?_
            refine kget X hP oX g_X6_25 rfl dX6_pay_64 ?_
            refine lv_aload_n hx hb dX6_pay_67 rfl (lv_at hl 0 rfl) ?_
            refine kget X hP oX g_X6_12 rfl dX6_pay_68 ?_
            refine kcVv X hP hS (c_X2_record l hI (j := 0) (n := n) (k := k) (L := L) (pi := pi) (by omega) hL hL4 hpi hne hn hn4 hk hk4 hz hy) oH v_X6_44 ⟨Nat.le_of_ble_eq_true rfl, Nat.le_of_ble_eq_true rfl, rfl, rfl⟩ rfl rfl (Nat.le_of_ble_eq_true rfl) hl.1 ⟨Nat.zero_le _, Nat.zero_le _⟩ dX6_pay_71 (fun G_71 H locs hR hP hS => ?_)
            have h_71 : rcR G G_71 pi L n k := hR
            have e0 := rcR_0 h_71 hL4 hne
            have er : G_71 (rN 0 r) = G (rN 0 r) := e0 _ (by unfold rN; omega) (by unfold rN; omega) (by unfold rN; omega)
            refine lv_aload_n hx hb dX6_pay_74 rfl (lv_at hl 3 rfl) ?_
            refine lv_dup hx hb dX6_pay_75 rfl ?_
            refine kget X hP (oR (j := 0) (r := r) (by omega) (by omega)) g_X6_65 rfl dX6_pay_76 ?_
            refine lv_iload_n hx hb dX6_pay_79 rfl (lv_at hl 2 rfl) ?_
            refine lv_iadd hx hb dX6_pay_80 ?_
            rw [er]
            refine kput X hI hP hS (oR (j := 0) (r := r) (by omega) (by omega)) g_X6_65 (fun _ => rfl) rfl (fun _ => Nat.le_of_ble_eq_true rfl) rfl rfl dX6_pay_81 (fun H locs hP hS => ?_)
            refine lv_aload_n hx hb dX6_pay_84 rfl (lv_at hl 3 rfl) ?_
            refine kget X hP (oR (j := 0) (r := r) (by omega) (by omega)) g_X6_65 rfl dX6_pay_85 ?_
            exact hret _ _ _ _ _ _ (rdP_h hr hn4 (by rw [if_pos ⟨Int32.not_lt.mp c_15, c_22⟩, if_pos c_42, if_neg (Int32.not_lt.mpr c_57)]; exact ⟨by simp [gs], _, h_71, rfl⟩)) hP hS dX6_pay_88
          · skip
            refine lv_bipush (v := (-3)) hx hb dX6_pay_60 (by decide) ?_
            exact hret _ _ _ _ _ _ (rdP_h hr hn4 (by rw [if_pos ⟨Int32.not_lt.mp c_15, c_22⟩, if_pos c_42, if_pos (Int32.not_le.mp c_57)]; exact ⟨rfl, rfl⟩)) hP hS dX6_pay_62
        · skip
          refine lv_bipush (v := (-4)) hx hb dX6_pay_45 (by decide) ?_
          exact hret _ _ _ _ _ _ (rdP_h hr hn4 (by rw [if_pos ⟨Int32.not_lt.mp c_15, c_22⟩, if_neg c_42]; exact ⟨rfl, rfl⟩)) hP hS dX6_pay_47
      · skip
        refine lv_bipush (v := (-2)) hx hb dX6_pay_25 (by decide) ?_
        exact hret _ _ _ _ _ _ (rdP_h hr hn4 (by rw [if_neg (fun z => absurd z.2 c_22)]; exact ⟨rfl, rfl⟩)) hP hS dX6_pay_27
  · skip
    have hms := hsR_no hn4 (by rw [hn] at c_8; exact c_8)
    refine lv_iconst (v := (-1)) hx hb dX6_pay_11 (by decide) ?_
    exact hret _ _ _ _ _ _ (rdP_m hms ⟨rfl, rfl⟩) hP hS dX6_pay_12

set_option maxHeartbeats 4000000 in
set_option maxRecDepth 100000 in
theorem c_X6_write (l : Launch) {D : va_G} {τ : Nat → ClassId} {ad : Nat → Nat} (hI : kInj ad) {G : Nat → Nat → Int32} {n k L : Nat} {x y z : Int32} {pi : Nat → Nat} (hL : G 8 1 = nI L) (hL4 : L ≤ 4) (hpi : ∀ t, t < 4 → G 9 t = nI (pi t) ∧ pi t < 7) (hne : ∀ t, t < 4 → pi t ≠ 0) (hn : G (sB 0) 6 = nI n) (hn4 : n ≤ 40) (hk : G (sB 0) 7 = nI k) (hk4 : k ≤ 40) (hz : ∀ r, r < n → G (rN 0 r) 8 = 0 ∨ G (rN 0 r) 8 = 1) (hy : G (sB 0) 9 = 0 ∨ G (sB 0) 9 = 1) : kM l yX6_write cX6_write 5 (some .int) { frames := 4, cells := 0, slots := 0, locals := 104 } D τ ad [.ref (ad 7), .int x, .int y, .int z] G (fun v G' => rdP n x (v = -1 ∧ G' = G) (fun r => rdP 12 y (v = -1 ∧ G' = G) (fun c => if nI 0 ≤ z ∧ z ≤ nI 9999 then (if G (rN 0 r) 1 = 0 then ∃ Gr, rcR G Gr pi L n k ∧ v = bcF (G (rN 0 r) 5 ||| bt c) ∧ G' = gs (gs Gr (rW 0 r) c z) (rN 0 r) 5 (G (rN 0 r) 5 ||| bt c) else v = -4 ∧ G' = G) else v = -2 ∧ G' = G))) := by
  refine kMet (own := RX6) (by decide) rfl (Nat.le_of_ble_eq_true rfl) ?_
  intro p9 e9 s9 m9 args9 below9 meth9 c9 Q9 X hx hb hP hS hret ls hl
  have hPs := hP
  have hl : lv_has ls 5 [(0, .ref (ad 7)), (1, .int x), (2, .int y), (3, .int z)] := hl
  refine lv_aload_n hx hb dX6_write_0 rfl (lv_at hl 0 rfl) ?_
  refine kget X hP oX g_X6_12 rfl dX6_write_1 ?_
  refine lv_iload_n hx hb dX6_write_4 rfl (lv_at hl 1 rfl) ?_
  refine kcV X hP hS (c_X4_hasReader l hI (j := 0) (by omega)) (oS (j := 0) (by omega)) v_X6_51 ⟨Nat.le_of_ble_eq_true rfl, Nat.le_of_ble_eq_true rfl, rfl, rfl⟩ rfl rfl (Nat.le_of_ble_eq_true rfl) hl.1 ⟨Nat.zero_le _, Nat.zero_le _⟩ dX6_write_5 (fun r_5 G_5 H locs hR hP hS => ?_)
  obtain ⟨rfl, hG_5⟩ := hR
  rw [hG_5] at hP
  clear hG_5
  first
    | refine kif_eq (tgt := 18) hx hb dX6_write_8 (by decide) (fun c_8 => ?_) (fun c_8 => ?_)
    | refine lv_if_eq (tgt := 18) hx hb dX6_write_8 (by decide) (fun c_8 => ?_) (fun c_8 => ?_)
  · skip
    have hms := hsR_no hn4 (by rw [hn] at c_8; exact c_8)
    refine lv_iconst (v := (-1)) hx hb dX6_write_18 (by decide) ?_
    exact hret _ _ _ _ _ _ (rdP_m hms ⟨rfl, rfl⟩) hP hS dX6_write_19
  · skip
    obtain ⟨r, hr, rfl⟩ := hsR_yes hn4 (by rw [hn] at c_8; exact c_8)
    refine lv_iload_n hx hb dX6_write_11 rfl (lv_at hl 2 rfl) ?_
    refine kcS X hP hS (c_X6_isCell l hI) v_X6_99 ⟨Nat.le_of_ble_eq_true rfl, Nat.le_of_ble_eq_true rfl, rfl, rfl⟩ rfl rfl (Nat.le_of_ble_eq_true rfl) hl.1 ⟨Nat.zero_le _, Nat.zero_le _⟩ dX6_write_12 (fun r_12 G_12 H locs hR hP hS => ?_)
    obtain ⟨rfl, hG_12⟩ := hR
    rw [hG_12] at hP
    clear hG_12
    first
      | refine kif_ne (tgt := 20) hx hb dX6_write_15 (by decide) (fun c_15 => ?_) (fun c_15 => ?_)
      | refine lv_if_ne (tgt := 20) hx hb dX6_write_15 (by decide) (fun c_15 => ?_) (fun c_15 => ?_)
    · skip
      obtain ⟨c, hc, rfl⟩ := hsR_yes (n := 12) (by omega) c_15
      refine lv_iload_n hx hb dX6_write_20 rfl (lv_at hl 3 rfl) ?_
      refine lv_if_lt (tgt := 31) hx hb dX6_write_21 (by decide) (fun c_21 => ?_) (fun c_21 => ?_)
      · skip
        refine lv_bipush (v := (-2)) hx hb dX6_write_31 (by decide) ?_
        exact hret _ _ _ _ _ _ (rdP_h hr hn4 (rdP_h hc (by omega) (by rw [if_neg (fun z => Int32.not_lt.mpr z.1 c_21)]; exact ⟨rfl, rfl⟩))) hP hS dX6_write_33
      · skip
        refine lv_iload_n hx hb dX6_write_24 rfl (lv_at hl 3 rfl) ?_
        refine lv_sipush (v := nI 9999) hx hb dX6_write_25 (by decide) ?_
        first
          | refine kic_le (tgt := 34) hx hb dX6_write_28 (by decide) (by with_reducible rfl) (by with_reducible rfl) (by omega) (by omega) (fun c_28 => ?_) (fun c_28 => ?_)
          | refine lv_icmp_le (tgt := 34) hx hb dX6_write_28 (by decide) (fun c_28 => ?_) (fun c_28 => ?_)
        · skip
          refine lv_aload_n hx hb dX6_write_34 rfl (lv_at hl 0 rfl) ?_
          refine kget X hP oX g_X6_12 rfl dX6_write_35 ?_
          refine kget X hP (oS (j := 0) (by omega)) g_X6_55 rfl dX6_write_38 ?_
          refine lv_iload_n hx hb dX6_write_41 rfl (lv_at hl 1 rfl) ?_
          refine kaald X hP (qR (j := 0) (by omega)) (by omega) rfl dX6_write_42 ?_
          refine kastW hx hb dX6_write_43 hl (by decide) (kp_4_4 rfl) (fun ls hl => ?_)
          refine lv_aload hx hb dX6_write_45 (lv_at hl 4 rfl) ?_
          refine kcV X hP hS (c_X3_isOpen l hI (j := 0) (by omega) (by omega)) (oR (j := 0) (r := r) (by omega) (by omega)) v_X6_59 ⟨Nat.le_of_ble_eq_true rfl, Nat.le_of_ble_eq_true rfl, rfl, rfl⟩ rfl rfl (Nat.le_of_ble_eq_true rfl) hl.1 ⟨Nat.zero_le _, Nat.zero_le _⟩ dX6_write_47 (fun r_47 G_47 H locs hR hP hS => ?_)
          obtain ⟨rfl, hG_47⟩ := hR
          rw [hG_47] at hP
          clear hG_47
          first
            | refine kif_ne (tgt := 56) hx hb dX6_write_50 (by decide) (fun c_50 => ?_) (fun c_50 => ?_)
            | refine lv_if_ne (tgt := 56) hx hb dX6_write_50 (by decide) (fun c_50 => ?_) (fun c_50 => ?_)
          · skip
            refine lv_aload_n hx hb dX6_write_56 rfl (lv_at hl 0 rfl) ?_
            refine kget X hP oX g_X6_25 rfl dX6_write_57 ?_
            refine lv_aload_n hx hb dX6_write_60 rfl (lv_at hl 0 rfl) ?_
            refine kget X hP oX g_X6_12 rfl dX6_write_61 ?_
            refine kcVv X hP hS (c_X2_record l hI (j := 0) (n := n) (k := k) (L := L) (pi := pi) (by omega) hL hL4 hpi hne hn hn4 hk hk4 hz hy) oH v_X6_44 ⟨Nat.le_of_ble_eq_true rfl, Nat.le_of_ble_eq_true rfl, rfl, rfl⟩ rfl rfl (Nat.le_of_ble_eq_true rfl) hl.1 ⟨Nat.zero_le _, Nat.zero_le _⟩ dX6_write_64 (fun G_64 H locs hR hP hS => ?_)
            have h_64 : rcR G G_64 pi L n k := hR
            have e0 := rcR_0 h_64 hL4 hne
            have er : G_64 (rN 0 r) = G (rN 0 r) := e0 _ (by unfold rN; omega) (by unfold rN; omega) (by unfold rN; omega)
            refine lv_aload hx hb dX6_write_67 (lv_at hl 4 rfl) ?_
            refine lv_iload_n hx hb dX6_write_69 rfl (lv_at hl 2 rfl) ?_
            refine lv_iload_n hx hb dX6_write_70 rfl (lv_at hl 3 rfl) ?_
            refine kcVv X hP hS (c_X3_putWrite l hI (j := 0) (by omega) (by omega) hc) (oR (j := 0) (r := r) (by omega) (by omega)) v_X6_124 ⟨Nat.le_of_ble_eq_true rfl, Nat.le_of_ble_eq_true rfl, rfl, rfl⟩ rfl rfl (Nat.le_of_ble_eq_true rfl) hl.1 ⟨Nat.zero_le _, Nat.zero_le _⟩ dX6_write_71 (fun G_71 H locs hR hP hS => ?_)
            subst hR
            rw [er] at hP
            refine lv_aload hx hb dX6_write_74 (lv_at hl 4 rfl) ?_
            refine kcV X hP hS (c_X3_numberOfWrites l hI (j := 0) (by omega) (by omega)) (oR (j := 0) (r := r) (by omega) (by omega)) v_X6_127 ⟨Nat.le_of_ble_eq_true rfl, Nat.le_of_ble_eq_true rfl, rfl, rfl⟩ rfl rfl (Nat.le_of_ble_eq_true rfl) hl.1 ⟨Nat.zero_le _, Nat.zero_le _⟩ dX6_write_76 (fun r_76 G_76 H locs hR hP hS => ?_)
            obtain ⟨rfl, hG_76⟩ := hR
            rw [hG_76] at hP
            clear hG_76
            exact hret _ _ _ _ _ _ (rdP_h hr hn4 (rdP_h hc (by omega) (by rw [if_pos ⟨Int32.not_lt.mp c_21, c_28⟩, if_pos c_50]; exact ⟨_, h_64, by simp [gs], rfl⟩))) hP hS dX6_write_79
          · skip
            refine lv_bipush (v := (-4)) hx hb dX6_write_53 (by decide) ?_
            exact hret _ _ _ _ _ _ (rdP_h hr hn4 (rdP_h hc (by omega) (by rw [if_pos ⟨Int32.not_lt.mp c_21, c_28⟩, if_neg c_50]; exact ⟨rfl, rfl⟩))) hP hS dX6_write_55
        · skip
          refine lv_bipush (v := (-2)) hx hb dX6_write_31 (by decide) ?_
          exact hret _ _ _ _ _ _ (rdP_h hr hn4 (rdP_h hc (by omega) (by rw [if_neg (fun z => absurd z.2 c_28)]; exact ⟨rfl, rfl⟩))) hP hS dX6_write_33
    · skip
      have hmc := hsR_no (n := 12) (by omega) c_15
      refine lv_iconst (v := (-1)) hx hb dX6_write_18 (by decide) ?_
      exact hret _ _ _ _ _ _ (rdP_h hr hn4 (rdP_m hmc ⟨rfl, rfl⟩)) hP hS dX6_write_19
