set_option maxHeartbeats 4000000 in
set_option maxRecDepth 100000 in
theorem c_X7_newest (l : Launch) {D : va_G} {τ : Nat → ClassId} {ad : Nat → Nat} (hI : kInj ad) {G : Nat → Nat → Int32} {Wn : Nat} {x : Int32} (hW : G 1 8 = nI Wn) (hW1 : 1 ≤ Wn) (hW6 : Wn ≤ 64) : kM l yX7_newest cX7_newest 2 (some .int) { frames := 2, cells := 0, slots := 0, locals := 48 } D τ ad [.ref (ad 0), .int x] G (fun v G' => v = nI (vA (G 1) Wn x (G 1 0)) ∧ G' = G) := by
  refine kMet (own := RX7) (by decide) rfl (Nat.le_of_ble_eq_true rfl) ?_
  intro p9 e9 s9 m9 args9 below9 meth9 c9 Q9 X hx hb hP hS hret ls hl
  have hPs := hP
  have hl : lv_has ls 2 [(0, .ref (ad 0)), (1, .int x)] := hl
  refine lv_aload_n hx hb dX7_newest_0 rfl (lv_at hl 0 rfl) ?_
  refine lv_iload_n hx hb dX7_newest_1 rfl (lv_at hl 1 rfl) ?_
  refine lv_aload_n hx hb dX7_newest_2 rfl (lv_at hl 0 rfl) ?_
  refine kget X hP oJ g_X7_7 rfl dX7_newest_3 ?_
  refine lv_iconst (v := nI 0) hx hb dX7_newest_6 (by decide) ?_
  refine kiald X hP aJ1 (by omega) dX7_newest_7 ?_
  refine kcV X hP hS (c_X7_versionAt l hI (by first | assumption | omega) (by first | assumption | omega) (by first | assumption | omega)) oJ v_X7_57 ⟨Nat.le_of_ble_eq_true rfl, Nat.le_of_ble_eq_true rfl, rfl, rfl⟩ rfl rfl (Nat.le_of_ble_eq_true rfl) hl.1 ⟨Nat.zero_le _, Nat.zero_le _⟩ dX7_newest_8 (fun r_8 G_8 H locs hR hP hS => ?_)
  obtain ⟨rfl, hG_8⟩ := hR
  rw [hG_8] at hP
  clear hG_8
  exact hret _ _ _ _ _ _ (⟨rfl, rfl⟩) hP hS dX7_newest_11

set_option maxHeartbeats 4000000 in
set_option maxRecDepth 100000 in
theorem c_X7_isOld (l : Launch) {D : va_G} {τ : Nat → ClassId} {ad : Nat → Nat} (hI : kInj ad) {G : Nat → Nat → Int32} {Wn q : Nat} (hW : G 1 8 = nI Wn) (hW1 : 1 ≤ Wn) (hW6 : Wn ≤ 64) (hq : q < 64) : kM l yX7_isOld cX7_isOld 2 (some .boolean) { frames := 3, cells := 0, slots := 0, locals := 69 } D τ ad [.ref (ad 0), .int (nI q)] G (fun v G' => v = (if olM (G 1) Wn q then 1 else 0) ∧ G' = G) := by
  refine kMetZ (own := RX7) (by decide) rfl (Nat.le_of_ble_eq_true rfl) ?_
  intro p9 e9 s9 m9 args9 below9 meth9 c9 Q9 X hx hb hP hS hret ls hl
  have hPs := hP
  have hl : lv_has ls 2 [(0, .ref (ad 0)), (1, .int (nI q))] := hl
  refine lv_aload_n hx hb dX7_isOld_0 rfl (lv_at hl 0 rfl) ?_
  refine lv_aload_n hx hb dX7_isOld_1 rfl (lv_at hl 0 rfl) ?_
  refine lv_iload_n hx hb dX7_isOld_2 rfl (lv_at hl 1 rfl) ?_
  refine lv_iconst (v := nI 0) hx hb dX7_isOld_3 (by decide) ?_
  refine kcV X hP hS (c_X7_ofV l hI (by first | assumption | omega)) oJ v_X7_54 ⟨Nat.le_of_ble_eq_true rfl, Nat.le_of_ble_eq_true rfl, rfl, rfl⟩ rfl rfl (Nat.le_of_ble_eq_true rfl) hl.1 ⟨Nat.zero_le _, Nat.zero_le _⟩ dX7_isOld_4 (fun r_4 G_4 H locs hR hP hS => ?_)
  obtain ⟨rfl, hG_4⟩ := hR
  rw [hG_4] at hP
  clear hG_4
  refine kcV X hP hS (c_X7_newest l hI hW hW1 hW6) oJ v_X7_60 ⟨Nat.le_of_ble_eq_true rfl, Nat.le_of_ble_eq_true rfl, rfl, rfl⟩ rfl rfl (Nat.le_of_ble_eq_true rfl) hl.1 ⟨Nat.zero_le _, Nat.zero_le _⟩ dX7_isOld_7 (fun r_7 G_7 H locs hR hP hS => ?_)
  obtain ⟨rfl, hG_7⟩ := hR
  rw [hG_7] at hP
  clear hG_7
  obtain ⟨a, ha⟩ : ∃ z, z = vA (G 1) Wn (G 1 (809 + 3 * q + 0)) (G 1 0) := ⟨_, rfl⟩
  rw [← ha]
  have hb_a : a < Wn := by rw [ha]; exact vA_lt hW1
  refine lv_iload_n hx hb dX7_isOld_10 rfl (lv_at hl 1 rfl) ?_
  first
    | refine kic_eq (tgt := 18) hx hb dX7_isOld_11 (by decide) (by with_reducible rfl) (by with_reducible rfl) (by omega) (by omega) (fun c_11 => ?_) (fun c_11 => ?_)
    | refine lv_icmp_eq (tgt := 18) hx hb dX7_isOld_11 (by decide) (fun c_11 => ?_) (fun c_11 => ?_)
  · skip
    refine lv_iconst (v := nI 0) hx hb dX7_isOld_18 (by decide) ?_
    exact hret _ _ _ _ _ _ (by decide) (⟨(if_neg (fun z => z (by rw [← ha]; exact c_11))).symm, rfl⟩) hP hS dX7_isOld_19
  · skip
    refine lv_iconst (v := nI 1) hx hb dX7_isOld_14 (by decide) ?_
    refine lv_goto (tgt := 19) hx hb dX7_isOld_15 (by decide) ?_
    exact hret _ _ _ _ _ _ (by decide) (⟨(if_pos (show vA _ _ _ _ ≠ q from by rw [← ha]; exact c_11)).symm, rfl⟩) hP hS dX7_isOld_19

set_option maxHeartbeats 4000000 in
set_option maxRecDepth 100000 in
theorem c_X7_sees (l : Launch) {D : va_G} {τ : Nat → ClassId} {ad : Nat → Nat} (hI : kInj ad) {G : Nat → Nat → Int32} {Wn r q : Nat} (hW : G 1 8 = nI Wn) (hW1 : 1 ≤ Wn) (hW6 : Wn ≤ 64) (hr : r < 40) (hq : q < 64) : kM l yX7_sees cX7_sees 3 (some .boolean) { frames := 2, cells := 0, slots := 0, locals := 48 } D τ ad [.ref (ad 0), .int (nI r), .int (nI q)] G (fun v G' => v = (if seM (G 1) Wn r q then 1 else 0) ∧ G' = G) := by
  refine kMetZ (own := RX7) (by decide) rfl (Nat.le_of_ble_eq_true rfl) ?_
  intro p9 e9 s9 m9 args9 below9 meth9 c9 Q9 X hx hb hP hS hret ls hl
  have hPs := hP
  have hl : lv_has ls 3 [(0, .ref (ad 0)), (1, .int (nI r)), (2, .int (nI q))] := hl
  refine lv_aload_n hx hb dX7_sees_0 rfl (lv_at hl 0 rfl) ?_
  refine lv_iload_n hx hb dX7_sees_1 rfl (lv_at hl 1 rfl) ?_
  refine kcV X hP hS (c_X7_isOpen l hI (by first | assumption | omega)) oJ v_X7_64 ⟨Nat.le_of_ble_eq_true rfl, Nat.le_of_ble_eq_true rfl, rfl, rfl⟩ rfl rfl (Nat.le_of_ble_eq_true rfl) hl.1 ⟨Nat.zero_le _, Nat.zero_le _⟩ dX7_sees_2 (fun r_2 G_2 H locs hR hP hS => ?_)
  obtain ⟨rfl, hG_2⟩ := hR
  rw [hG_2] at hP
  clear hG_2
  first
    | refine kif_eq (tgt := 32) hx hb dX7_sees_5 (by decide) (fun c_5 => ?_) (fun c_5 => ?_)
    | refine lv_if_eq (tgt := 32) hx hb dX7_sees_5 (by decide) (fun c_5 => ?_) (fun c_5 => ?_)
  · skip
    refine lv_iconst (v := nI 0) hx hb dX7_sees_32 (by decide) ?_
    exact hret _ _ _ _ _ _ (by decide) (⟨(if_neg (fun z => c_5 z.1)).symm, rfl⟩) hP hS dX7_sees_33
  · skip
    refine lv_aload_n hx hb dX7_sees_8 rfl (lv_at hl 0 rfl) ?_
    refine lv_aload_n hx hb dX7_sees_9 rfl (lv_at hl 0 rfl) ?_
    refine lv_iload_n hx hb dX7_sees_10 rfl (lv_at hl 2 rfl) ?_
    refine lv_iconst (v := nI 0) hx hb dX7_sees_11 (by decide) ?_
    refine kcV X hP hS (c_X7_ofV l hI (by first | assumption | omega)) oJ v_X7_54 ⟨Nat.le_of_ble_eq_true rfl, Nat.le_of_ble_eq_true rfl, rfl, rfl⟩ rfl rfl (Nat.le_of_ble_eq_true rfl) hl.1 ⟨Nat.zero_le _, Nat.zero_le _⟩ dX7_sees_12 (fun r_12 G_12 H locs hR hP hS => ?_)
    obtain ⟨rfl, hG_12⟩ := hR
    rw [hG_12] at hP
    clear hG_12
    refine lv_aload_n hx hb dX7_sees_15 rfl (lv_at hl 0 rfl) ?_
    refine lv_iload_n hx hb dX7_sees_16 rfl (lv_at hl 1 rfl) ?_
    refine lv_iconst (v := nI 0) hx hb dX7_sees_17 (by decide) ?_
    refine kcV X hP hS (c_X7_ofR l hI (by first | assumption | omega)) oJ v_X7_32 ⟨Nat.le_of_ble_eq_true rfl, Nat.le_of_ble_eq_true rfl, rfl, rfl⟩ rfl rfl (Nat.le_of_ble_eq_true rfl) hl.1 ⟨Nat.zero_le _, Nat.zero_le _⟩ dX7_sees_18 (fun r_18 G_18 H locs hR hP hS => ?_)
    obtain ⟨rfl, hG_18⟩ := hR
    rw [hG_18] at hP
    clear hG_18
    refine kcV X hP hS (c_X7_versionAt l hI hW hW1 hW6) oJ v_X7_57 ⟨Nat.le_of_ble_eq_true rfl, Nat.le_of_ble_eq_true rfl, rfl, rfl⟩ rfl rfl (Nat.le_of_ble_eq_true rfl) hl.1 ⟨Nat.zero_le _, Nat.zero_le _⟩ dX7_sees_21 (fun r_21 G_21 H locs hR hP hS => ?_)
    obtain ⟨rfl, hG_21⟩ := hR
    rw [hG_21] at hP
    clear hG_21
    obtain ⟨a, ha⟩ : ∃ z, z = vA (G 1) Wn (G 1 (809 + 3 * q + 0)) (G 1 (9 + 20 * r + 0)) := ⟨_, rfl⟩
    rw [← ha]
    have hb_a : a < Wn := by rw [ha]; exact vA_lt hW1
    refine lv_iload_n hx hb dX7_sees_24 rfl (lv_at hl 2 rfl) ?_
    first
      | refine kic_ne (tgt := 32) hx hb dX7_sees_25 (by decide) (by with_reducible rfl) (by with_reducible rfl) (by omega) (by omega) (fun c_25 => ?_) (fun c_25 => ?_)
      | refine lv_icmp_ne (tgt := 32) hx hb dX7_sees_25 (by decide) (fun c_25 => ?_) (fun c_25 => ?_)
    · skip
      refine lv_iconst (v := nI 0) hx hb dX7_sees_32 (by decide) ?_
      exact hret _ _ _ _ _ _ (by decide) (⟨(if_neg (fun z => c_25 (by rw [ha]; exact z.2))).symm, rfl⟩) hP hS dX7_sees_33
    · skip
      refine lv_iconst (v := nI 1) hx hb dX7_sees_28 (by decide) ?_
      refine lv_goto (tgt := 33) hx hb dX7_sees_29 (by decide) ?_
      exact hret _ _ _ _ _ _ (by decide) (⟨(if_pos ⟨c_5, by rw [← ha]; exact c_25⟩).symm, rfl⟩) hP hS dX7_sees_33

set_option maxHeartbeats 4000000 in
set_option maxRecDepth 100000 in
theorem c_X7_seenBy (l : Launch) {D : va_G} {τ : Nat → ClassId} {ad : Nat → Nat} (hI : kInj ad) {G : Nat → Nat → Int32} {Wn q n : Nat} {w : Int32} (hW : G 1 8 = nI Wn) (hW1 : 1 ≤ Wn) (hW6 : Wn ≤ 64) (hn : G 1 2 = nI n) (hn4 : n ≤ 40) (hq : q < 64) : kM l yX7_seenBy cX7_seenBy 5 (some .int) { frames := 3, cells := 0, slots := 0, locals := 70 } D τ ad [.ref (ad 0), .int (nI q), .int w] G (fun v G' => v = nI (cn (sbM (G 1) Wn q w) n) ∧ G' = G) := by
  refine kMet (own := RX7) (by decide) rfl (Nat.le_of_ble_eq_true rfl) ?_
  intro p9 e9 s9 m9 args9 below9 meth9 c9 Q9 X hx hb hP hS hret ls hl
  have hPs := hP
  have hl : lv_has ls 5 [(0, .ref (ad 0)), (1, .int (nI q)), (2, .int w)] := hl
  refine lv_iconst (v := nI 0) hx hb dX7_seenBy_0 (by decide) ?_
  refine kist hx hb dX7_seenBy_1 rfl hl (by decide) (kp_3_3 rfl) (fun ls hl => ?_)
  refine lv_iconst (v := nI 0) hx hb dX7_seenBy_2 (by decide) ?_
  refine kistW hx hb dX7_seenBy_3 hl (by decide) (kp_4_4 rfl) (fun ls hl => ?_)
  have lp_5 : ∀ (d : Nat) (i x : Nat) (H : Heap) (locs : List Loc) (ls : Array Slot), (n - i) < d → (i ≤ n) → (x = cn (sbM (G 1) Wn q w) i) → va_P D vwCl (kW τ ad G) H → va_S (kAd ad) s9.heap H locs → lv_has ls 5 [(0, .ref (ad 0)), (1, .int (nI q)), (2, .int w), (3, .int (nI x)), (4, .int (nI i))] → W p9 l e9 { frames := 3, cells := 0, slots := 0, locals := 70 } s9 m9 args9 below9 meth9 c9 H locs 0 0 Q9 (F0 m9 5 ls []) := by
    intro d
    induction d with
    | zero => exact fun _ _ _ _ _ hd => absurd hd (Nat.not_lt_zero _)
    | succ d ih_5 =>
      intro i x H locs ls hd iv_0 iv_1 hP hS hl
      refine lv_iload hx hb dX7_seenBy_5 (lv_at hl 4 rfl) ?_
      refine lv_aload_n hx hb dX7_seenBy_7 rfl (lv_at hl 0 rfl) ?_
      refine kget X hP oJ g_X7_7 rfl dX7_seenBy_8 ?_
      refine lv_iconst (v := nI 2) hx hb dX7_seenBy_11 (by decide) ?_
      refine kiald X hP aJ1 (by omega) dX7_seenBy_12 ?_
      rw [hn]
      first
        | refine kic_ge (tgt := 53) hx hb dX7_seenBy_13 (by decide) (by with_reducible rfl) (by with_reducible rfl) (by omega) (by omega) (fun c_13 => ?_) (fun c_13 => ?_)
        | refine lv_icmp_ge (tgt := 53) hx hb dX7_seenBy_13 (by decide) (fun c_13 => ?_) (fun c_13 => ?_)
      · skip
        refine lv_iload_n hx hb dX7_seenBy_53 rfl (lv_at hl 3 rfl) ?_
        exact hret _ _ _ _ _ _ (⟨congrArg nI (iv_1.trans (by rw [show i = n by omega])), rfl⟩) hP hS dX7_seenBy_54
      · skip
        refine lv_iload_n hx hb dX7_seenBy_16 rfl (lv_at hl 3 rfl) ?_
        refine lv_aload_n hx hb dX7_seenBy_17 rfl (lv_at hl 0 rfl) ?_
        refine lv_iload hx hb dX7_seenBy_18 (lv_at hl 4 rfl) ?_
        refine lv_iload_n hx hb dX7_seenBy_20 rfl (lv_at hl 1 rfl) ?_
        refine kcV X hP hS (c_X7_sees l hI hW hW1 hW6 (by omega) hq) oJ v_X7_68 ⟨Nat.le_of_ble_eq_true rfl, Nat.le_of_ble_eq_true rfl, rfl, rfl⟩ rfl rfl (Nat.le_of_ble_eq_true rfl) hl.1 ⟨Nat.zero_le _, Nat.zero_le _⟩ dX7_seenBy_21 (fun r_21 G_21 H locs hR hP hS => ?_)
        obtain ⟨rfl, hG_21⟩ := hR
        rw [hG_21] at hP
        clear hG_21
        first
          | refine kif_eq (tgt := 44) hx hb dX7_seenBy_24 (by decide) (fun c_24 => ?_) (fun c_24 => ?_)
          | refine lv_if_eq (tgt := 44) hx hb dX7_seenBy_24 (by decide) (fun c_24 => ?_) (fun c_24 => ?_)
        · skip
          refine lv_iconst (v := nI 0) hx hb dX7_seenBy_44 (by decide) ?_
          first
            | refine kadd hx hb dX7_seenBy_45 (by with_reducible rfl) (by with_reducible rfl) ?_
            | refine lv_iadd hx hb dX7_seenBy_45 ?_
          refine kist hx hb dX7_seenBy_46 rfl hl (by decide) (kp_5_3 rfl) (fun ls hl => ?_)
          first
            | refine kinc (q := 4) hx hb dX7_seenBy_47 hl rfl (by decide) (kp_5_4 rfl) (fun ls hl => ?_)
            | refine kincG (q := 4) hx hb dX7_seenBy_47 hl rfl (by decide) (kp_5_4 rfl) (fun ls hl => ?_)
          refine lv_goto (tgt := 5) hx hb dX7_seenBy_50 (by decide) ?_
          exact ih_5 _ _ _ _ _ (by omega) (by omega) (cn_z iv_1 (if_neg (fun z => c_24 z.1))) hP hS (lv_sub hl [0,1,2,3,4] rfl)
        · skip
          refine lv_iload_n hx hb dX7_seenBy_27 rfl (lv_at hl 2 rfl) ?_
          first
            | refine kif_ne (tgt := 40) hx hb dX7_seenBy_28 (by decide) (fun c_28 => ?_) (fun c_28 => ?_)
            | refine lv_if_ne (tgt := 40) hx hb dX7_seenBy_28 (by decide) (fun c_28 => ?_) (fun c_28 => ?_)
          · skip
            refine lv_iconst (v := nI 1) hx hb dX7_seenBy_40 (by decide) ?_
            refine lv_goto (tgt := 45) hx hb dX7_seenBy_41 (by decide) ?_
            first
              | refine kadd hx hb dX7_seenBy_45 (by with_reducible rfl) (by with_reducible rfl) ?_
              | refine lv_iadd hx hb dX7_seenBy_45 ?_
            refine kist hx hb dX7_seenBy_46 rfl hl (by decide) (kp_5_3 rfl) (fun ls hl => ?_)
            first
              | refine kinc (q := 4) hx hb dX7_seenBy_47 hl rfl (by decide) (kp_5_4 rfl) (fun ls hl => ?_)
              | refine kincG (q := 4) hx hb dX7_seenBy_47 hl rfl (by decide) (kp_5_4 rfl) (fun ls hl => ?_)
            refine lv_goto (tgt := 5) hx hb dX7_seenBy_50 (by decide) ?_
            exact ih_5 _ _ _ _ _ (by omega) (by omega) (cn_p iv_1 (if_pos (And.intro c_24 (Or.inl c_28)))) hP hS (lv_sub hl [0,1,2,3,4] rfl)
          · skip
            refine lv_aload_n hx hb dX7_seenBy_31 rfl (lv_at hl 0 rfl) ?_
            refine lv_iload hx hb dX7_seenBy_32 (lv_at hl 4 rfl) ?_
            refine kcV X hP hS (c_X7_isWidow l hI (by first | assumption | omega)) oJ v_X7_72 ⟨Nat.le_of_ble_eq_true rfl, Nat.le_of_ble_eq_true rfl, rfl, rfl⟩ rfl rfl (Nat.le_of_ble_eq_true rfl) hl.1 ⟨Nat.zero_le _, Nat.zero_le _⟩ dX7_seenBy_34 (fun r_34 G_34 H locs hR hP hS => ?_)
            obtain ⟨rfl, hG_34⟩ := hR
            rw [hG_34] at hP
            clear hG_34
            first
              | refine kif_ne (tgt := 44) hx hb dX7_seenBy_37 (by decide) (fun c_37 => ?_) (fun c_37 => ?_)
              | refine lv_if_ne (tgt := 44) hx hb dX7_seenBy_37 (by decide) (fun c_37 => ?_) (fun c_37 => ?_)
            · skip
              refine lv_iconst (v := nI 0) hx hb dX7_seenBy_44 (by decide) ?_
              first
                | refine kadd hx hb dX7_seenBy_45 (by with_reducible rfl) (by with_reducible rfl) ?_
                | refine lv_iadd hx hb dX7_seenBy_45 ?_
              refine kist hx hb dX7_seenBy_46 rfl hl (by decide) (kp_5_3 rfl) (fun ls hl => ?_)
              first
                | refine kinc (q := 4) hx hb dX7_seenBy_47 hl rfl (by decide) (kp_5_4 rfl) (fun ls hl => ?_)
                | refine kincG (q := 4) hx hb dX7_seenBy_47 hl rfl (by decide) (kp_5_4 rfl) (fun ls hl => ?_)
              refine lv_goto (tgt := 5) hx hb dX7_seenBy_50 (by decide) ?_
              exact ih_5 _ _ _ _ _ (by omega) (by omega) (cn_z iv_1 (if_neg (fun z => z.2.elim (fun y => y c_28) (fun y => y c_37)))) hP hS (lv_sub hl [0,1,2,3,4] rfl)
            · skip
              refine lv_iconst (v := nI 1) hx hb dX7_seenBy_40 (by decide) ?_
              refine lv_goto (tgt := 45) hx hb dX7_seenBy_41 (by decide) ?_
              first
                | refine kadd hx hb dX7_seenBy_45 (by with_reducible rfl) (by with_reducible rfl) ?_
                | refine lv_iadd hx hb dX7_seenBy_45 ?_
              refine kist hx hb dX7_seenBy_46 rfl hl (by decide) (kp_5_3 rfl) (fun ls hl => ?_)
              first
                | refine kinc (q := 4) hx hb dX7_seenBy_47 hl rfl (by decide) (kp_5_4 rfl) (fun ls hl => ?_)
                | refine kincG (q := 4) hx hb dX7_seenBy_47 hl rfl (by decide) (kp_5_4 rfl) (fun ls hl => ?_)
              refine lv_goto (tgt := 5) hx hb dX7_seenBy_50 (by decide) ?_
              exact ih_5 _ _ _ _ _ (by omega) (by omega) (cn_p iv_1 (if_pos (And.intro c_24 (Or.inr c_37)))) hP hS (lv_sub hl [0,1,2,3,4] rfl)
  exact lp_5 _ 0 0 _ _ _ (Nat.lt_succ_self _) (Nat.zero_le _) (rfl) hP hS (lv_sub hl [0,1,2,3,4] rfl)

set_option maxHeartbeats 4000000 in
set_option maxRecDepth 100000 in
theorem c_X7_rentOf (l : Launch) {D : va_G} {τ : Nat → ClassId} {ad : Nat → Nat} (hI : kInj ad) {G : Nat → Nat → Int32} {Wn q n : Nat} (hW : G 1 8 = nI Wn) (hW1 : 1 ≤ Wn) (hW6 : Wn ≤ 64) (hn : G 1 2 = nI n) (hn4 : n ≤ 40) (hq : q < 64) : kM l yX7_rentOf cX7_rentOf 3 (some .int) { frames := 4, cells := 0, slots := 0, locals := 94 } D τ ad [.ref (ad 0), .int (nI q)] G (fun v G' => v = reM (G 1) Wn n q ∧ G' = G) := by
  refine kMet (own := RX7) (by decide) rfl (Nat.le_of_ble_eq_true rfl) ?_
  intro p9 e9 s9 m9 args9 below9 meth9 c9 Q9 X hx hb hP hS hret ls hl
  have hPs := hP
  have hl : lv_has ls 3 [(0, .ref (ad 0)), (1, .int (nI q))] := hl
  refine lv_aload_n hx hb dX7_rentOf_0 rfl (lv_at hl 0 rfl) ?_
  refine lv_iload_n hx hb dX7_rentOf_1 rfl (lv_at hl 1 rfl) ?_
  refine lv_iconst (v := nI 0) hx hb dX7_rentOf_2 (by decide) ?_
  refine kcV X hP hS (c_X7_seenBy l hI (w := nI 0) hW hW1 hW6 hn hn4 hq) oJ v_X7_75 ⟨Nat.le_of_ble_eq_true rfl, Nat.le_of_ble_eq_true rfl, rfl, rfl⟩ rfl rfl (Nat.le_of_ble_eq_true rfl) hl.1 ⟨Nat.zero_le _, Nat.zero_le _⟩ dX7_rentOf_3 (fun r_3 G_3 H locs hR hP hS => ?_)
  obtain ⟨rfl, hG_3⟩ := hR
  rw [hG_3] at hP
  clear hG_3
  refine kist hx hb dX7_rentOf_6 rfl hl (by decide) (kp_2_2 rfl) (fun ls hl => ?_)
  refine lv_iload_n hx hb dX7_rentOf_7 rfl (lv_at hl 2 rfl) ?_
  first
    | refine kif_ne (tgt := 15) hx hb dX7_rentOf_8 (by decide) (fun c_8 => ?_) (fun c_8 => ?_)
    | refine lv_if_ne (tgt := 15) hx hb dX7_rentOf_8 (by decide) (fun c_8 => ?_) (fun c_8 => ?_)
  · skip
    refine lv_aload_n hx hb dX7_rentOf_15 rfl (lv_at hl 0 rfl) ?_
    refine kget X hP oJ g_X7_7 rfl dX7_rentOf_16 ?_
    refine lv_iconst (v := nI 4) hx hb dX7_rentOf_19 (by decide) ?_
    refine kiald X hP aJ1 (by omega) dX7_rentOf_20 ?_
    refine lv_iload_n hx hb dX7_rentOf_21 rfl (lv_at hl 2 rfl) ?_
    refine lv_iadd hx hb dX7_rentOf_22 ?_
    refine lv_iconst (v := nI 1) hx hb dX7_rentOf_23 (by decide) ?_
    first
      | refine ksub hx hb dX7_rentOf_24 (by with_reducible rfl) (by with_reducible rfl) (by omega) ?_
      | refine lv_isub hx hb dX7_rentOf_24 ?_
    refine lv_iload_n hx hb dX7_rentOf_25 rfl (lv_at hl 2 rfl) ?_
    refine lv_idiv hx hb dX7_rentOf_26 c_8 ?_
    exact hret _ _ _ _ _ _ (by refine ⟨?_, rfl⟩; exact (if_neg c_8).symm) hP hS dX7_rentOf_27
  · skip
    refine lv_iconst (v := nI 0) hx hb dX7_rentOf_11 (by decide) ?_
    refine lv_goto (tgt := 27) hx hb dX7_rentOf_12 (by decide) ?_
    exact hret _ _ _ _ _ _ (by refine ⟨?_, rfl⟩; exact (if_pos c_8).symm) hP hS dX7_rentOf_27

set_option maxHeartbeats 4000000 in
set_option maxRecDepth 100000 in
theorem c_X7_dueOf (l : Launch) {D : va_G} {τ : Nat → ClassId} {ad : Nat → Nat} (hI : kInj ad) {G : Nat → Nat → Int32} {Wn r n : Nat} (hW : G 1 8 = nI Wn) (hW1 : 1 ≤ Wn) (hW6 : Wn ≤ 64) (hn : G 1 2 = nI n) (hn4 : n ≤ 40) (hr : r < 40) : kM l yX7_dueOf cX7_dueOf 4 (some .int) { frames := 5, cells := 0, slots := 0, locals := 116 } D τ ad [.ref (ad 0), .int (nI r)] G (fun v G' => v = dueM (G 1) Wn n r ∧ G' = G) := by
  refine kMet (own := RX7) (by decide) rfl (Nat.le_of_ble_eq_true rfl) ?_
  intro p9 e9 s9 m9 args9 below9 meth9 c9 Q9 X hx hb hP hS hret ls hl
  have hPs := hP
  have hl : lv_has ls 4 [(0, .ref (ad 0)), (1, .int (nI r))] := hl
  refine lv_aload_n hx hb dX7_dueOf_0 rfl (lv_at hl 0 rfl) ?_
  refine lv_iload_n hx hb dX7_dueOf_1 rfl (lv_at hl 1 rfl) ?_
  refine kcV X hP hS (c_X7_isOpen l hI (by first | assumption | omega)) oJ v_X7_64 ⟨Nat.le_of_ble_eq_true rfl, Nat.le_of_ble_eq_true rfl, rfl, rfl⟩ rfl rfl (Nat.le_of_ble_eq_true rfl) hl.1 ⟨Nat.zero_le _, Nat.zero_le _⟩ dX7_dueOf_2 (fun r_2 G_2 H locs hR hP hS => ?_)
  obtain ⟨rfl, hG_2⟩ := hR
  rw [hG_2] at hP
  clear hG_2
  first
    | refine kif_eq (tgt := 16) hx hb dX7_dueOf_5 (by decide) (fun c_5 => ?_) (fun c_5 => ?_)
    | refine lv_if_eq (tgt := 16) hx hb dX7_dueOf_5 (by decide) (fun c_5 => ?_) (fun c_5 => ?_)
  · skip
    refine lv_iconst (v := nI 0) hx hb dX7_dueOf_16 (by decide) ?_
    exact hret _ _ _ _ _ _ (⟨(if_neg (fun z => c_5 z.1)).symm, rfl⟩) hP hS dX7_dueOf_17
  · skip
    refine lv_aload_n hx hb dX7_dueOf_8 rfl (lv_at hl 0 rfl) ?_
    refine lv_iload_n hx hb dX7_dueOf_9 rfl (lv_at hl 1 rfl) ?_
    refine kcV X hP hS (c_X7_isWidow l hI (by first | assumption | omega)) oJ v_X7_72 ⟨Nat.le_of_ble_eq_true rfl, Nat.le_of_ble_eq_true rfl, rfl, rfl⟩ rfl rfl (Nat.le_of_ble_eq_true rfl) hl.1 ⟨Nat.zero_le _, Nat.zero_le _⟩ dX7_dueOf_10 (fun r_10 G_10 H locs hR hP hS => ?_)
    obtain ⟨rfl, hG_10⟩ := hR
    rw [hG_10] at hP
    clear hG_10
    first
      | refine kif_eq (tgt := 18) hx hb dX7_dueOf_13 (by decide) (fun c_13 => ?_) (fun c_13 => ?_)
      | refine lv_if_eq (tgt := 18) hx hb dX7_dueOf_13 (by decide) (fun c_13 => ?_) (fun c_13 => ?_)
    · skip
      refine lv_iconst (v := nI 0) hx hb dX7_dueOf_18 (by decide) ?_
      refine kist hx hb dX7_dueOf_19 rfl hl (by decide) (kp_2_2 rfl) (fun ls hl => ?_)
      refine lv_iconst (v := nI 0) hx hb dX7_dueOf_20 (by decide) ?_
      refine kist hx hb dX7_dueOf_21 rfl hl (by decide) (kp_3_3 rfl) (fun ls hl => ?_)
      have lp_22 : ∀ (d : Nat) (x : Int32) (i : Nat) (H : Heap) (locs : List Loc) (ls : Array Slot), (Wn - i) < d → (i ≤ Wn) → (x = sm (duM (G 1) Wn n r) i) → va_P D vwCl (kW τ ad G) H → va_S (kAd ad) s9.heap H locs → lv_has ls 4 [(0, .ref (ad 0)), (1, .int (nI r)), (2, .int x), (3, .int (nI i))] → W p9 l e9 { frames := 5, cells := 0, slots := 0, locals := 116 } s9 m9 args9 below9 meth9 c9 H locs 0 0 Q9 (F0 m9 22 ls []) := by
        intro d
        induction d with
        | zero => exact fun _ _ _ _ _ hd => absurd hd (Nat.not_lt_zero _)
        | succ d ih_22 =>
          intro x i H locs ls hd iv_0 iv_1 hP hS hl
          refine lv_iload_n hx hb dX7_dueOf_22 rfl (lv_at hl 3 rfl) ?_
          refine lv_aload_n hx hb dX7_dueOf_23 rfl (lv_at hl 0 rfl) ?_
          refine kget X hP oJ g_X7_7 rfl dX7_dueOf_24 ?_
          refine lv_bipush (v := nI 8) hx hb dX7_dueOf_27 (by decide) ?_
          refine kiald X hP aJ1 (by omega) dX7_dueOf_29 ?_
          rw [hW]
          first
            | refine kic_ge (tgt := 68) hx hb dX7_dueOf_30 (by decide) (by with_reducible rfl) (by with_reducible rfl) (by omega) (by omega) (fun c_30 => ?_) (fun c_30 => ?_)
            | refine lv_icmp_ge (tgt := 68) hx hb dX7_dueOf_30 (by decide) (fun c_30 => ?_) (fun c_30 => ?_)
          · skip
            refine lv_iload_n hx hb dX7_dueOf_68 rfl (lv_at hl 2 rfl) ?_
            exact hret _ _ _ _ _ _ (⟨(by rw [dueM, if_pos ⟨c_5, c_13⟩, iv_1, show i = Wn by omega]), rfl⟩) hP hS dX7_dueOf_69
          · skip
            refine lv_iload_n hx hb dX7_dueOf_33 rfl (lv_at hl 2 rfl) ?_
            refine lv_aload_n hx hb dX7_dueOf_34 rfl (lv_at hl 0 rfl) ?_
            refine lv_iload_n hx hb dX7_dueOf_35 rfl (lv_at hl 3 rfl) ?_
            refine kcV X hP hS (c_X7_isOld l hI hW hW1 hW6 (by omega)) oJ v_X7_79 ⟨Nat.le_of_ble_eq_true rfl, Nat.le_of_ble_eq_true rfl, rfl, rfl⟩ rfl rfl (Nat.le_of_ble_eq_true rfl) hl.1 ⟨Nat.zero_le _, Nat.zero_le _⟩ dX7_dueOf_36 (fun r_36 G_36 H locs hR hP hS => ?_)
            obtain ⟨rfl, hG_36⟩ := hR
            rw [hG_36] at hP
            clear hG_36
            first
              | refine kif_eq (tgt := 59) hx hb dX7_dueOf_39 (by decide) (fun c_39 => ?_) (fun c_39 => ?_)
              | refine lv_if_eq (tgt := 59) hx hb dX7_dueOf_39 (by decide) (fun c_39 => ?_) (fun c_39 => ?_)
            · skip
              refine lv_iconst (v := nI 0) hx hb dX7_dueOf_59 (by decide) ?_
              refine lv_iadd hx hb dX7_dueOf_60 ?_
              refine kist hx hb dX7_dueOf_61 rfl hl (by decide) (kp_4_2 rfl) (fun ls hl => ?_)
              first
                | refine kinc (q := 3) hx hb dX7_dueOf_62 hl rfl (by decide) (kp_4_3 rfl) (fun ls hl => ?_)
                | refine kincG (q := 3) hx hb dX7_dueOf_62 hl rfl (by decide) (kp_4_3 rfl) (fun ls hl => ?_)
              refine lv_goto (tgt := 22) hx hb dX7_dueOf_65 (by decide) ?_
              exact ih_22 _ _ _ _ _ (by omega) (by omega) (sm_s iv_1 (if_neg (fun z => c_39 z.1))) hP hS (lv_sub hl [0,1,2,3] rfl)
            · skip
              refine lv_aload_n hx hb dX7_dueOf_42 rfl (lv_at hl 0 rfl) ?_
              refine lv_iload_n hx hb dX7_dueOf_43 rfl (lv_at hl 1 rfl) ?_
              refine lv_iload_n hx hb dX7_dueOf_44 rfl (lv_at hl 3 rfl) ?_
              refine kcV X hP hS (c_X7_sees l hI hW hW1 hW6 hr (by omega)) oJ v_X7_68 ⟨Nat.le_of_ble_eq_true rfl, Nat.le_of_ble_eq_true rfl, rfl, rfl⟩ rfl rfl (Nat.le_of_ble_eq_true rfl) hl.1 ⟨Nat.zero_le _, Nat.zero_le _⟩ dX7_dueOf_45 (fun r_45 G_45 H locs hR hP hS => ?_)
              obtain ⟨rfl, hG_45⟩ := hR
              rw [hG_45] at hP
              clear hG_45
              first
                | refine kif_eq (tgt := 59) hx hb dX7_dueOf_48 (by decide) (fun c_48 => ?_) (fun c_48 => ?_)
                | refine lv_if_eq (tgt := 59) hx hb dX7_dueOf_48 (by decide) (fun c_48 => ?_) (fun c_48 => ?_)
              · skip
                refine lv_iconst (v := nI 0) hx hb dX7_dueOf_59 (by decide) ?_
                refine lv_iadd hx hb dX7_dueOf_60 ?_
                refine kist hx hb dX7_dueOf_61 rfl hl (by decide) (kp_4_2 rfl) (fun ls hl => ?_)
                first
                  | refine kinc (q := 3) hx hb dX7_dueOf_62 hl rfl (by decide) (kp_4_3 rfl) (fun ls hl => ?_)
                  | refine kincG (q := 3) hx hb dX7_dueOf_62 hl rfl (by decide) (kp_4_3 rfl) (fun ls hl => ?_)
                refine lv_goto (tgt := 22) hx hb dX7_dueOf_65 (by decide) ?_
                exact ih_22 _ _ _ _ _ (by omega) (by omega) (sm_s iv_1 (if_neg (fun z => c_48 z.2))) hP hS (lv_sub hl [0,1,2,3] rfl)
              · skip
                refine lv_aload_n hx hb dX7_dueOf_51 rfl (lv_at hl 0 rfl) ?_
                refine lv_iload_n hx hb dX7_dueOf_52 rfl (lv_at hl 3 rfl) ?_
                refine kcV X hP hS (c_X7_rentOf l hI hW hW1 hW6 hn hn4 (by omega)) oJ v_X7_82 ⟨Nat.le_of_ble_eq_true rfl, Nat.le_of_ble_eq_true rfl, rfl, rfl⟩ rfl rfl (Nat.le_of_ble_eq_true rfl) hl.1 ⟨Nat.zero_le _, Nat.zero_le _⟩ dX7_dueOf_53 (fun r_53 G_53 H locs hR hP hS => ?_)
                obtain ⟨rfl, hG_53⟩ := hR
                rw [hG_53] at hP
                clear hG_53
                refine lv_goto (tgt := 60) hx hb dX7_dueOf_56 (by decide) ?_
                refine lv_iadd hx hb dX7_dueOf_60 ?_
                refine kist hx hb dX7_dueOf_61 rfl hl (by decide) (kp_4_2 rfl) (fun ls hl => ?_)
                first
                  | refine kinc (q := 3) hx hb dX7_dueOf_62 hl rfl (by decide) (kp_4_3 rfl) (fun ls hl => ?_)
                  | refine kincG (q := 3) hx hb dX7_dueOf_62 hl rfl (by decide) (kp_4_3 rfl) (fun ls hl => ?_)
                refine lv_goto (tgt := 22) hx hb dX7_dueOf_65 (by decide) ?_
                exact ih_22 _ _ _ _ _ (by omega) (by omega) (sm_s iv_1 (if_pos (And.intro c_39 c_48))) hP hS (lv_sub hl [0,1,2,3] rfl)
      exact lp_22 _ (nI 0) 0 _ _ _ (Nat.lt_succ_self _) (Nat.zero_le _) (rfl) hP hS (lv_sub hl [0,1,2,3] rfl)
    · skip
      refine lv_iconst (v := nI 0) hx hb dX7_dueOf_16 (by decide) ?_
      exact hret _ _ _ _ _ _ (⟨(if_neg (fun z => z.2 c_13)).symm, rfl⟩) hP hS dX7_dueOf_17

set_option maxHeartbeats 4000000 in
set_option maxRecDepth 100000 in
theorem c_X7_oldMany (l : Launch) {D : va_G} {τ : Nat → ClassId} {ad : Nat → Nat} (hI : kInj ad) {G : Nat → Nat → Int32} {Wn : Nat} (hW : G 1 8 = nI Wn) : kM l yX7_oldMany cX7_oldMany 1 (some .int) { frames := 0, cells := 0, slots := 0, locals := 0 } D τ ad [.ref (ad 0)] G (fun v G' => v = nI Wn - nI 12 ∧ G' = G) := by
  refine kMet (own := RX7) (by decide) rfl (Nat.le_of_ble_eq_true rfl) ?_
  intro p9 e9 s9 m9 args9 below9 meth9 c9 Q9 X hx hb hP hS hret ls hl
  have hPs := hP
  have hl : lv_has ls 1 [(0, .ref (ad 0))] := hl
  refine lv_aload_n hx hb dX7_oldMany_0 rfl (lv_at hl 0 rfl) ?_
  refine kget X hP oJ g_X7_7 rfl dX7_oldMany_1 ?_
  refine lv_bipush (v := nI 8) hx hb dX7_oldMany_4 (by decide) ?_
  refine kiald X hP aJ1 (by omega) dX7_oldMany_6 ?_
  rw [hW]
  refine lv_bipush (v := nI 12) hx hb dX7_oldMany_7 (by decide) ?_
  refine lv_isub hx hb dX7_oldMany_9 ?_
  exact hret _ _ _ _ _ _ (⟨rfl, rfl⟩) hP hS dX7_oldMany_10

set_option maxHeartbeats 4000000 in
set_option maxRecDepth 100000 in
theorem c_X7_ofState (l : Launch) {D : va_G} {τ : Nat → ClassId} {ad : Nat → Nat} (hI : kInj ad) {G : Nat → Nat → Int32} {n : Nat} {w : Int32} (hn : G 1 2 = nI n) (hn4 : n ≤ 40) : kM l yX7_ofState cX7_ofState 4 (some .int) { frames := 1, cells := 0, slots := 0, locals := 22 } D τ ad [.ref (ad 0), .int w] G (fun v G' => v = nI (cn (fun r => if G 1 (9 + 20 * r + 2) = w then 1 else 0) n) ∧ G' = G) := by
  refine kMet (own := RX7) (by decide) rfl (Nat.le_of_ble_eq_true rfl) ?_
  intro p9 e9 s9 m9 args9 below9 meth9 c9 Q9 X hx hb hP hS hret ls hl
  have hPs := hP
  have hl : lv_has ls 4 [(0, .ref (ad 0)), (1, .int w)] := hl
  refine lv_iconst (v := nI 0) hx hb dX7_ofState_0 (by decide) ?_
  refine kist hx hb dX7_ofState_1 rfl hl (by decide) (kp_2_2 rfl) (fun ls hl => ?_)
  refine lv_iconst (v := nI 0) hx hb dX7_ofState_2 (by decide) ?_
  refine kist hx hb dX7_ofState_3 rfl hl (by decide) (kp_3_3 rfl) (fun ls hl => ?_)
  have lp_4 : ∀ (d : Nat) (i x : Nat) (H : Heap) (locs : List Loc) (ls : Array Slot), (n - i) < d → (i ≤ n) → (x = cn (fun r => if G 1 (9 + 20 * r + 2) = w then 1 else 0) i) → va_P D vwCl (kW τ ad G) H → va_S (kAd ad) s9.heap H locs → lv_has ls 4 [(0, .ref (ad 0)), (1, .int w), (2, .int (nI x)), (3, .int (nI i))] → W p9 l e9 { frames := 1, cells := 0, slots := 0, locals := 22 } s9 m9 args9 below9 meth9 c9 H locs 0 0 Q9 (F0 m9 4 ls []) := by
    intro d
    induction d with
    | zero => exact fun _ _ _ _ _ hd => absurd hd (Nat.not_lt_zero _)
    | succ d ih_4 =>
      intro i x H locs ls hd iv_0 iv_1 hP hS hl
      refine lv_iload_n hx hb dX7_ofState_4 rfl (lv_at hl 3 rfl) ?_
      refine lv_aload_n hx hb dX7_ofState_5 rfl (lv_at hl 0 rfl) ?_
      refine kget X hP oJ g_X7_7 rfl dX7_ofState_6 ?_
      refine lv_iconst (v := nI 2) hx hb dX7_ofState_9 (by decide) ?_
      refine kiald X hP aJ1 (by omega) dX7_ofState_10 ?_
      rw [hn]
      first
        | refine kic_ge (tgt := 38) hx hb dX7_ofState_11 (by decide) (by with_reducible rfl) (by with_reducible rfl) (by omega) (by omega) (fun c_11 => ?_) (fun c_11 => ?_)
        | refine lv_icmp_ge (tgt := 38) hx hb dX7_ofState_11 (by decide) (fun c_11 => ?_) (fun c_11 => ?_)
      · skip
        refine lv_iload_n hx hb dX7_ofState_38 rfl (lv_at hl 2 rfl) ?_
        exact hret _ _ _ _ _ _ (⟨congrArg nI (iv_1.trans (by rw [show i = n by omega])), rfl⟩) hP hS dX7_ofState_39
      · skip
        refine lv_iload_n hx hb dX7_ofState_14 rfl (lv_at hl 2 rfl) ?_
        refine lv_aload_n hx hb dX7_ofState_15 rfl (lv_at hl 0 rfl) ?_
        refine lv_iload_n hx hb dX7_ofState_16 rfl (lv_at hl 3 rfl) ?_
        refine lv_iconst (v := nI 2) hx hb dX7_ofState_17 (by decide) ?_
        refine kcV X hP hS (c_X7_ofR l hI (by first | assumption | omega)) oJ v_X7_32 ⟨Nat.le_of_ble_eq_true rfl, Nat.le_of_ble_eq_true rfl, rfl, rfl⟩ rfl rfl (Nat.le_of_ble_eq_true rfl) hl.1 ⟨Nat.zero_le _, Nat.zero_le _⟩ dX7_ofState_18 (fun r_18 G_18 H locs hR hP hS => ?_)
        obtain ⟨rfl, hG_18⟩ := hR
        rw [hG_18] at hP
        clear hG_18
        refine lv_iload_n hx hb dX7_ofState_21 rfl (lv_at hl 1 rfl) ?_
        first
          | refine kic_ne (tgt := 29) hx hb dX7_ofState_22 (by decide) (by with_reducible rfl) (by with_reducible rfl) (by omega) (by omega) (fun c_22 => ?_) (fun c_22 => ?_)
          | refine lv_icmp_ne (tgt := 29) hx hb dX7_ofState_22 (by decide) (fun c_22 => ?_) (fun c_22 => ?_)
        · skip
          refine lv_iconst (v := nI 0) hx hb dX7_ofState_29 (by decide) ?_
          first
            | refine kadd hx hb dX7_ofState_30 (by with_reducible rfl) (by with_reducible rfl) ?_
            | refine lv_iadd hx hb dX7_ofState_30 ?_
          refine kist hx hb dX7_ofState_31 rfl hl (by decide) (kp_4_2 rfl) (fun ls hl => ?_)
          first
            | refine kinc (q := 3) hx hb dX7_ofState_32 hl rfl (by decide) (kp_4_3 rfl) (fun ls hl => ?_)
            | refine kincG (q := 3) hx hb dX7_ofState_32 hl rfl (by decide) (kp_4_3 rfl) (fun ls hl => ?_)
          refine lv_goto (tgt := 4) hx hb dX7_ofState_35 (by decide) ?_
          exact ih_4 _ _ _ _ _ (by omega) (by omega) (cn_z iv_1 (if_neg c_22)) hP hS (lv_sub hl [0,1,2,3] rfl)
        · skip
          refine lv_iconst (v := nI 1) hx hb dX7_ofState_25 (by decide) ?_
          refine lv_goto (tgt := 30) hx hb dX7_ofState_26 (by decide) ?_
          first
            | refine kadd hx hb dX7_ofState_30 (by with_reducible rfl) (by with_reducible rfl) ?_
            | refine lv_iadd hx hb dX7_ofState_30 ?_
          refine kist hx hb dX7_ofState_31 rfl hl (by decide) (kp_4_2 rfl) (fun ls hl => ?_)
          first
            | refine kinc (q := 3) hx hb dX7_ofState_32 hl rfl (by decide) (kp_4_3 rfl) (fun ls hl => ?_)
            | refine kincG (q := 3) hx hb dX7_ofState_32 hl rfl (by decide) (kp_4_3 rfl) (fun ls hl => ?_)
          refine lv_goto (tgt := 4) hx hb dX7_ofState_35 (by decide) ?_
          exact ih_4 _ _ _ _ _ (by omega) (by omega) (cn_p iv_1 (if_pos c_22)) hP hS (lv_sub hl [0,1,2,3] rfl)
  exact lp_4 _ 0 0 _ _ _ (Nat.lt_succ_self _) (Nat.zero_le _) (rfl) hP hS (lv_sub hl [0,1,2,3] rfl)

set_option maxHeartbeats 4000000 in
set_option maxRecDepth 100000 in
theorem c_X7_versionsOf (l : Launch) {D : va_G} {τ : Nat → ClassId} {ad : Nat → Nat} (hI : kInj ad) {G : Nat → Nat → Int32} {Wn : Nat} {w : Int32} (hW : G 1 8 = nI Wn) (hW1 : 1 ≤ Wn) (hW6 : Wn ≤ 64) : kM l yX7_versionsOf cX7_versionsOf 4 (some .int) { frames := 1, cells := 0, slots := 0, locals := 22 } D τ ad [.ref (ad 0), .int w] G (fun v G' => v = nI (cn (fun q => if G 1 (809 + 3 * q + 0) = w then 1 else 0) Wn) ∧ G' = G) := by
  refine kMet (own := RX7) (by decide) rfl (Nat.le_of_ble_eq_true rfl) ?_
  intro p9 e9 s9 m9 args9 below9 meth9 c9 Q9 X hx hb hP hS hret ls hl
  have hPs := hP
  have hl : lv_has ls 4 [(0, .ref (ad 0)), (1, .int w)] := hl
  refine lv_iconst (v := nI 0) hx hb dX7_versionsOf_0 (by decide) ?_
  refine kist hx hb dX7_versionsOf_1 rfl hl (by decide) (kp_2_2 rfl) (fun ls hl => ?_)
  refine lv_iconst (v := nI 0) hx hb dX7_versionsOf_2 (by decide) ?_
  refine kist hx hb dX7_versionsOf_3 rfl hl (by decide) (kp_3_3 rfl) (fun ls hl => ?_)
  have lp_4 : ∀ (d : Nat) (i x : Nat) (H : Heap) (locs : List Loc) (ls : Array Slot), (Wn - i) < d → (i ≤ Wn) → (x = cn (fun q => if G 1 (809 + 3 * q + 0) = w then 1 else 0) i) → va_P D vwCl (kW τ ad G) H → va_S (kAd ad) s9.heap H locs → lv_has ls 4 [(0, .ref (ad 0)), (1, .int w), (2, .int (nI x)), (3, .int (nI i))] → W p9 l e9 { frames := 1, cells := 0, slots := 0, locals := 22 } s9 m9 args9 below9 meth9 c9 H locs 0 0 Q9 (F0 m9 4 ls []) := by
    intro d
    induction d with
    | zero => exact fun _ _ _ _ _ hd => absurd hd (Nat.not_lt_zero _)
    | succ d ih_4 =>
      intro i x H locs ls hd iv_0 iv_1 hP hS hl
      refine lv_iload_n hx hb dX7_versionsOf_4 rfl (lv_at hl 3 rfl) ?_
      refine lv_aload_n hx hb dX7_versionsOf_5 rfl (lv_at hl 0 rfl) ?_
      refine kget X hP oJ g_X7_7 rfl dX7_versionsOf_6 ?_
      refine lv_bipush (v := nI 8) hx hb dX7_versionsOf_9 (by decide) ?_
      refine kiald X hP aJ1 (by omega) dX7_versionsOf_11 ?_
      rw [hW]
      first
        | refine kic_ge (tgt := 39) hx hb dX7_versionsOf_12 (by decide) (by with_reducible rfl) (by with_reducible rfl) (by omega) (by omega) (fun c_12 => ?_) (fun c_12 => ?_)
        | refine lv_icmp_ge (tgt := 39) hx hb dX7_versionsOf_12 (by decide) (fun c_12 => ?_) (fun c_12 => ?_)
      · skip
        refine lv_iload_n hx hb dX7_versionsOf_39 rfl (lv_at hl 2 rfl) ?_
        exact hret _ _ _ _ _ _ (⟨congrArg nI (iv_1.trans (by rw [show i = Wn by omega])), rfl⟩) hP hS dX7_versionsOf_40
      · skip
        refine lv_iload_n hx hb dX7_versionsOf_15 rfl (lv_at hl 2 rfl) ?_
        refine lv_aload_n hx hb dX7_versionsOf_16 rfl (lv_at hl 0 rfl) ?_
        refine lv_iload_n hx hb dX7_versionsOf_17 rfl (lv_at hl 3 rfl) ?_
        refine lv_iconst (v := nI 0) hx hb dX7_versionsOf_18 (by decide) ?_
        refine kcV X hP hS (c_X7_ofV l hI (by first | assumption | omega)) oJ v_X7_54 ⟨Nat.le_of_ble_eq_true rfl, Nat.le_of_ble_eq_true rfl, rfl, rfl⟩ rfl rfl (Nat.le_of_ble_eq_true rfl) hl.1 ⟨Nat.zero_le _, Nat.zero_le _⟩ dX7_versionsOf_19 (fun r_19 G_19 H locs hR hP hS => ?_)
        obtain ⟨rfl, hG_19⟩ := hR
        rw [hG_19] at hP
        clear hG_19
        refine lv_iload_n hx hb dX7_versionsOf_22 rfl (lv_at hl 1 rfl) ?_
        first
          | refine kic_ne (tgt := 30) hx hb dX7_versionsOf_23 (by decide) (by with_reducible rfl) (by with_reducible rfl) (by omega) (by omega) (fun c_23 => ?_) (fun c_23 => ?_)
          | refine lv_icmp_ne (tgt := 30) hx hb dX7_versionsOf_23 (by decide) (fun c_23 => ?_) (fun c_23 => ?_)
        · skip
          refine lv_iconst (v := nI 0) hx hb dX7_versionsOf_30 (by decide) ?_
          first
            | refine kadd hx hb dX7_versionsOf_31 (by with_reducible rfl) (by with_reducible rfl) ?_
            | refine lv_iadd hx hb dX7_versionsOf_31 ?_
          refine kist hx hb dX7_versionsOf_32 rfl hl (by decide) (kp_4_2 rfl) (fun ls hl => ?_)
          first
            | refine kinc (q := 3) hx hb dX7_versionsOf_33 hl rfl (by decide) (kp_4_3 rfl) (fun ls hl => ?_)
            | refine kincG (q := 3) hx hb dX7_versionsOf_33 hl rfl (by decide) (kp_4_3 rfl) (fun ls hl => ?_)
          refine lv_goto (tgt := 4) hx hb dX7_versionsOf_36 (by decide) ?_
          exact ih_4 _ _ _ _ _ (by omega) (by omega) (cn_z iv_1 (if_neg c_23)) hP hS (lv_sub hl [0,1,2,3] rfl)
        · skip
          refine lv_iconst (v := nI 1) hx hb dX7_versionsOf_26 (by decide) ?_
          refine lv_goto (tgt := 31) hx hb dX7_versionsOf_27 (by decide) ?_
          first
            | refine kadd hx hb dX7_versionsOf_31 (by with_reducible rfl) (by with_reducible rfl) ?_
            | refine lv_iadd hx hb dX7_versionsOf_31 ?_
          refine kist hx hb dX7_versionsOf_32 rfl hl (by decide) (kp_4_2 rfl) (fun ls hl => ?_)
          first
            | refine kinc (q := 3) hx hb dX7_versionsOf_33 hl rfl (by decide) (kp_4_3 rfl) (fun ls hl => ?_)
            | refine kincG (q := 3) hx hb dX7_versionsOf_33 hl rfl (by decide) (kp_4_3 rfl) (fun ls hl => ?_)
          refine lv_goto (tgt := 4) hx hb dX7_versionsOf_36 (by decide) ?_
          exact ih_4 _ _ _ _ _ (by omega) (by omega) (cn_p iv_1 (if_pos c_23)) hP hS (lv_sub hl [0,1,2,3] rfl)
  exact lp_4 _ 0 0 _ _ _ (Nat.lt_succ_self _) (Nat.zero_le _) (rfl) hP hS (lv_sub hl [0,1,2,3] rfl)

set_option maxHeartbeats 4000000 in
set_option maxRecDepth 100000 in
theorem c_X7_writers (l : Launch) {D : va_G} {τ : Nat → ClassId} {ad : Nat → Nat} (hI : kInj ad) {G : Nat → Nat → Int32} {n k : Nat} (hn : G 1 2 = nI n) (hn4 : n ≤ 40) : kM l yX7_writers cX7_writers 4 (some .int) { frames := 2, cells := 0, slots := 0, locals := 43 } D τ ad [.ref (ad 0), .int (nI k)] G (fun v G' => v = nI (cn (fun r => if G 1 (9 + 20 * r + 2) = 0 ∧ hw (G 1 (9 + 20 * r + 4)) k then 1 else 0) n) ∧ G' = G) := by
  refine kMet (own := RX7) (by decide) rfl (Nat.le_of_ble_eq_true rfl) ?_
  intro p9 e9 s9 m9 args9 below9 meth9 c9 Q9 X hx hb hP hS hret ls hl
  have hPs := hP
  have hl : lv_has ls 4 [(0, .ref (ad 0)), (1, .int (nI k))] := hl
  refine lv_iconst (v := nI 0) hx hb dX7_writers_0 (by decide) ?_
  refine kist hx hb dX7_writers_1 rfl hl (by decide) (kp_2_2 rfl) (fun ls hl => ?_)
  refine lv_iconst (v := nI 0) hx hb dX7_writers_2 (by decide) ?_
  refine kist hx hb dX7_writers_3 rfl hl (by decide) (kp_3_3 rfl) (fun ls hl => ?_)
  have lp_4 : ∀ (d : Nat) (i x : Nat) (H : Heap) (locs : List Loc) (ls : Array Slot), (n - i) < d → (i ≤ n) → (x = cn (fun r => if G 1 (9 + 20 * r + 2) = 0 ∧ hw (G 1 (9 + 20 * r + 4)) k then 1 else 0) i) → va_P D vwCl (kW τ ad G) H → va_S (kAd ad) s9.heap H locs → lv_has ls 4 [(0, .ref (ad 0)), (1, .int (nI k)), (2, .int (nI x)), (3, .int (nI i))] → W p9 l e9 { frames := 2, cells := 0, slots := 0, locals := 43 } s9 m9 args9 below9 meth9 c9 H locs 0 0 Q9 (F0 m9 4 ls []) := by
    intro d
    induction d with
    | zero => exact fun _ _ _ _ _ hd => absurd hd (Nat.not_lt_zero _)
    | succ d ih_4 =>
      intro i x H locs ls hd iv_0 iv_1 hP hS hl
      refine lv_iload_n hx hb dX7_writers_4 rfl (lv_at hl 3 rfl) ?_
      refine lv_aload_n hx hb dX7_writers_5 rfl (lv_at hl 0 rfl) ?_
      refine kget X hP oJ g_X7_7 rfl dX7_writers_6 ?_
      refine lv_iconst (v := nI 2) hx hb dX7_writers_9 (by decide) ?_
      refine kiald X hP aJ1 (by omega) dX7_writers_10 ?_
      rw [hn]
      first
        | refine kic_ge (tgt := 49) hx hb dX7_writers_11 (by decide) (by with_reducible rfl) (by with_reducible rfl) (by omega) (by omega) (fun c_11 => ?_) (fun c_11 => ?_)
        | refine lv_icmp_ge (tgt := 49) hx hb dX7_writers_11 (by decide) (fun c_11 => ?_) (fun c_11 => ?_)
      · skip
        refine lv_iload_n hx hb dX7_writers_49 rfl (lv_at hl 2 rfl) ?_
        exact hret _ _ _ _ _ _ (⟨congrArg nI (iv_1.trans (by rw [show i = n by omega])), rfl⟩) hP hS dX7_writers_50
      · skip
        refine lv_iload_n hx hb dX7_writers_14 rfl (lv_at hl 2 rfl) ?_
        refine lv_aload_n hx hb dX7_writers_15 rfl (lv_at hl 0 rfl) ?_
        refine lv_iload_n hx hb dX7_writers_16 rfl (lv_at hl 3 rfl) ?_
        refine kcV X hP hS (c_X7_isOpen l hI (by first | assumption | omega)) oJ v_X7_64 ⟨Nat.le_of_ble_eq_true rfl, Nat.le_of_ble_eq_true rfl, rfl, rfl⟩ rfl rfl (Nat.le_of_ble_eq_true rfl) hl.1 ⟨Nat.zero_le _, Nat.zero_le _⟩ dX7_writers_17 (fun r_17 G_17 H locs hR hP hS => ?_)
        obtain ⟨rfl, hG_17⟩ := hR
        rw [hG_17] at hP
        clear hG_17
        first
          | refine kif_eq (tgt := 40) hx hb dX7_writers_20 (by decide) (fun c_20 => ?_) (fun c_20 => ?_)
          | refine lv_if_eq (tgt := 40) hx hb dX7_writers_20 (by decide) (fun c_20 => ?_) (fun c_20 => ?_)
        · skip
          refine lv_iconst (v := nI 0) hx hb dX7_writers_40 (by decide) ?_
          first
            | refine kadd hx hb dX7_writers_41 (by with_reducible rfl) (by with_reducible rfl) ?_
            | refine lv_iadd hx hb dX7_writers_41 ?_
          refine kist hx hb dX7_writers_42 rfl hl (by decide) (kp_4_2 rfl) (fun ls hl => ?_)
          first
            | refine kinc (q := 3) hx hb dX7_writers_43 hl rfl (by decide) (kp_4_3 rfl) (fun ls hl => ?_)
            | refine kincG (q := 3) hx hb dX7_writers_43 hl rfl (by decide) (kp_4_3 rfl) (fun ls hl => ?_)
          refine lv_goto (tgt := 4) hx hb dX7_writers_46 (by decide) ?_
          exact ih_4 _ _ _ _ _ (by omega) (by omega) (cn_z iv_1 (if_neg (fun z => c_20 z.1))) hP hS (lv_sub hl [0,1,2,3] rfl)
        · skip
          refine lv_aload_n hx hb dX7_writers_23 rfl (lv_at hl 0 rfl) ?_
          refine lv_iload_n hx hb dX7_writers_24 rfl (lv_at hl 3 rfl) ?_
          refine lv_iconst (v := nI 4) hx hb dX7_writers_25 (by decide) ?_
          refine kcV X hP hS (c_X7_ofR l hI (by first | assumption | omega)) oJ v_X7_32 ⟨Nat.le_of_ble_eq_true rfl, Nat.le_of_ble_eq_true rfl, rfl, rfl⟩ rfl rfl (Nat.le_of_ble_eq_true rfl) hl.1 ⟨Nat.zero_le _, Nat.zero_le _⟩ dX7_writers_26 (fun r_26 G_26 H locs hR hP hS => ?_)
          obtain ⟨rfl, hG_26⟩ := hR
          rw [hG_26] at hP
          clear hG_26
          refine lv_iload_n hx hb dX7_writers_29 rfl (lv_at hl 1 rfl) ?_
          refine kcS X hP hS (c_X7_has l hI) v_X7_111 ⟨Nat.le_of_ble_eq_true rfl, Nat.le_of_ble_eq_true rfl, rfl, rfl⟩ rfl rfl (Nat.le_of_ble_eq_true rfl) hl.1 ⟨Nat.zero_le _, Nat.zero_le _⟩ dX7_writers_30 (fun r_30 G_30 H locs hR hP hS => ?_)
          obtain ⟨rfl, hG_30⟩ := hR
          rw [hG_30] at hP
          clear hG_30
          first
            | refine kif_eq (tgt := 40) hx hb dX7_writers_33 (by decide) (fun c_33 => ?_) (fun c_33 => ?_)
            | refine lv_if_eq (tgt := 40) hx hb dX7_writers_33 (by decide) (fun c_33 => ?_) (fun c_33 => ?_)
          · skip
            refine lv_iconst (v := nI 0) hx hb dX7_writers_40 (by decide) ?_
            first
              | refine kadd hx hb dX7_writers_41 (by with_reducible rfl) (by with_reducible rfl) ?_
              | refine lv_iadd hx hb dX7_writers_41 ?_
            refine kist hx hb dX7_writers_42 rfl hl (by decide) (kp_4_2 rfl) (fun ls hl => ?_)
            first
              | refine kinc (q := 3) hx hb dX7_writers_43 hl rfl (by decide) (kp_4_3 rfl) (fun ls hl => ?_)
              | refine kincG (q := 3) hx hb dX7_writers_43 hl rfl (by decide) (kp_4_3 rfl) (fun ls hl => ?_)
            refine lv_goto (tgt := 4) hx hb dX7_writers_46 (by decide) ?_
            exact ih_4 _ _ _ _ _ (by omega) (by omega) (cn_z iv_1 (if_neg (fun z => c_33 z.2))) hP hS (lv_sub hl [0,1,2,3] rfl)
          · skip
            refine lv_iconst (v := nI 1) hx hb dX7_writers_36 (by decide) ?_
            refine lv_goto (tgt := 41) hx hb dX7_writers_37 (by decide) ?_
            first
              | refine kadd hx hb dX7_writers_41 (by with_reducible rfl) (by with_reducible rfl) ?_
              | refine lv_iadd hx hb dX7_writers_41 ?_
            refine kist hx hb dX7_writers_42 rfl hl (by decide) (kp_4_2 rfl) (fun ls hl => ?_)
            first
              | refine kinc (q := 3) hx hb dX7_writers_43 hl rfl (by decide) (kp_4_3 rfl) (fun ls hl => ?_)
              | refine kincG (q := 3) hx hb dX7_writers_43 hl rfl (by decide) (kp_4_3 rfl) (fun ls hl => ?_)
            refine lv_goto (tgt := 4) hx hb dX7_writers_46 (by decide) ?_
            exact ih_4 _ _ _ _ _ (by omega) (by omega) (cn_p iv_1 (if_pos (And.intro c_20 c_33))) hP hS (lv_sub hl [0,1,2,3] rfl)
  exact lp_4 _ 0 0 _ _ _ (Nat.lt_succ_self _) (Nat.zero_le _) (rfl) hP hS (lv_sub hl [0,1,2,3] rfl)

set_option maxHeartbeats 4000000 in
set_option maxRecDepth 100000 in
theorem c_X7_widows (l : Launch) {D : va_G} {τ : Nat → ClassId} {ad : Nat → Nat} (hI : kInj ad) {G : Nat → Nat → Int32} {n : Nat} (hn : G 1 2 = nI n) (hn4 : n ≤ 40) : kM l yX7_widows cX7_widows 3 (some .int) { frames := 2, cells := 0, slots := 0, locals := 43 } D τ ad [.ref (ad 0)] G (fun v G' => v = nI (cn (fun r => if G 1 (9 + 20 * r + 2) = 0 ∧ 0 < G 1 (9 + 20 * r + 5) then 1 else 0) n) ∧ G' = G) := by
  refine kMet (own := RX7) (by decide) rfl (Nat.le_of_ble_eq_true rfl) ?_
  intro p9 e9 s9 m9 args9 below9 meth9 c9 Q9 X hx hb hP hS hret ls hl
  have hPs := hP
  have hl : lv_has ls 3 [(0, .ref (ad 0))] := hl
  refine lv_iconst (v := nI 0) hx hb dX7_widows_0 (by decide) ?_
  refine kist hx hb dX7_widows_1 rfl hl (by decide) (kp_1_1 rfl) (fun ls hl => ?_)
  refine lv_iconst (v := nI 0) hx hb dX7_widows_2 (by decide) ?_
  refine kist hx hb dX7_widows_3 rfl hl (by decide) (kp_2_2 rfl) (fun ls hl => ?_)
  have lp_4 : ∀ (d : Nat) (i x : Nat) (H : Heap) (locs : List Loc) (ls : Array Slot), (n - i) < d → (i ≤ n) → (x = cn (fun r => if G 1 (9 + 20 * r + 2) = 0 ∧ 0 < G 1 (9 + 20 * r + 5) then 1 else 0) i) → va_P D vwCl (kW τ ad G) H → va_S (kAd ad) s9.heap H locs → lv_has ls 3 [(0, .ref (ad 0)), (1, .int (nI x)), (2, .int (nI i))] → W p9 l e9 { frames := 2, cells := 0, slots := 0, locals := 43 } s9 m9 args9 below9 meth9 c9 H locs 0 0 Q9 (F0 m9 4 ls []) := by
    intro d
    induction d with
    | zero => exact fun _ _ _ _ _ hd => absurd hd (Nat.not_lt_zero _)
    | succ d ih_4 =>
      intro i x H locs ls hd iv_0 iv_1 hP hS hl
      refine lv_iload_n hx hb dX7_widows_4 rfl (lv_at hl 2 rfl) ?_
      refine lv_aload_n hx hb dX7_widows_5 rfl (lv_at hl 0 rfl) ?_
      refine kget X hP oJ g_X7_7 rfl dX7_widows_6 ?_
      refine lv_iconst (v := nI 2) hx hb dX7_widows_9 (by decide) ?_
      refine kiald X hP aJ1 (by omega) dX7_widows_10 ?_
      rw [hn]
      first
        | refine kic_ge (tgt := 44) hx hb dX7_widows_11 (by decide) (by with_reducible rfl) (by with_reducible rfl) (by omega) (by omega) (fun c_11 => ?_) (fun c_11 => ?_)
        | refine lv_icmp_ge (tgt := 44) hx hb dX7_widows_11 (by decide) (fun c_11 => ?_) (fun c_11 => ?_)
      · skip
        refine lv_iload_n hx hb dX7_widows_44 rfl (lv_at hl 1 rfl) ?_
        exact hret _ _ _ _ _ _ (⟨congrArg nI (iv_1.trans (by rw [show i = n by omega])), rfl⟩) hP hS dX7_widows_45
      · skip
        refine lv_iload_n hx hb dX7_widows_14 rfl (lv_at hl 1 rfl) ?_
        refine lv_aload_n hx hb dX7_widows_15 rfl (lv_at hl 0 rfl) ?_
        refine lv_iload_n hx hb dX7_widows_16 rfl (lv_at hl 2 rfl) ?_
        refine kcV X hP hS (c_X7_isOpen l hI (by first | assumption | omega)) oJ v_X7_64 ⟨Nat.le_of_ble_eq_true rfl, Nat.le_of_ble_eq_true rfl, rfl, rfl⟩ rfl rfl (Nat.le_of_ble_eq_true rfl) hl.1 ⟨Nat.zero_le _, Nat.zero_le _⟩ dX7_widows_17 (fun r_17 G_17 H locs hR hP hS => ?_)
        obtain ⟨rfl, hG_17⟩ := hR
        rw [hG_17] at hP
        clear hG_17
        first
          | refine kif_eq (tgt := 35) hx hb dX7_widows_20 (by decide) (fun c_20 => ?_) (fun c_20 => ?_)
          | refine lv_if_eq (tgt := 35) hx hb dX7_widows_20 (by decide) (fun c_20 => ?_) (fun c_20 => ?_)
        · skip
          refine lv_iconst (v := nI 0) hx hb dX7_widows_35 (by decide) ?_
          first
            | refine kadd hx hb dX7_widows_36 (by with_reducible rfl) (by with_reducible rfl) ?_
            | refine lv_iadd hx hb dX7_widows_36 ?_
          refine kist hx hb dX7_widows_37 rfl hl (by decide) (kp_3_1 rfl) (fun ls hl => ?_)
          first
            | refine kinc (q := 2) hx hb dX7_widows_38 hl rfl (by decide) (kp_3_2 rfl) (fun ls hl => ?_)
            | refine kincG (q := 2) hx hb dX7_widows_38 hl rfl (by decide) (kp_3_2 rfl) (fun ls hl => ?_)
          refine lv_goto (tgt := 4) hx hb dX7_widows_41 (by decide) ?_
          exact ih_4 _ _ _ _ _ (by omega) (by omega) (cn_z iv_1 (if_neg (fun z => c_20 z.1))) hP hS (lv_sub hl [0,1,2] rfl)
        · skip
          refine lv_aload_n hx hb dX7_widows_23 rfl (lv_at hl 0 rfl) ?_
          refine lv_iload_n hx hb dX7_widows_24 rfl (lv_at hl 2 rfl) ?_
          refine kcV X hP hS (c_X7_isWidow l hI (by first | assumption | omega)) oJ v_X7_72 ⟨Nat.le_of_ble_eq_true rfl, Nat.le_of_ble_eq_true rfl, rfl, rfl⟩ rfl rfl (Nat.le_of_ble_eq_true rfl) hl.1 ⟨Nat.zero_le _, Nat.zero_le _⟩ dX7_widows_25 (fun r_25 G_25 H locs hR hP hS => ?_)
          obtain ⟨rfl, hG_25⟩ := hR
          rw [hG_25] at hP
          clear hG_25
          first
            | refine kif_eq (tgt := 35) hx hb dX7_widows_28 (by decide) (fun c_28 => ?_) (fun c_28 => ?_)
            | refine lv_if_eq (tgt := 35) hx hb dX7_widows_28 (by decide) (fun c_28 => ?_) (fun c_28 => ?_)
          · skip
            refine lv_iconst (v := nI 0) hx hb dX7_widows_35 (by decide) ?_
            first
              | refine kadd hx hb dX7_widows_36 (by with_reducible rfl) (by with_reducible rfl) ?_
              | refine lv_iadd hx hb dX7_widows_36 ?_
            refine kist hx hb dX7_widows_37 rfl hl (by decide) (kp_3_1 rfl) (fun ls hl => ?_)
            first
              | refine kinc (q := 2) hx hb dX7_widows_38 hl rfl (by decide) (kp_3_2 rfl) (fun ls hl => ?_)
              | refine kincG (q := 2) hx hb dX7_widows_38 hl rfl (by decide) (kp_3_2 rfl) (fun ls hl => ?_)
            refine lv_goto (tgt := 4) hx hb dX7_widows_41 (by decide) ?_
            exact ih_4 _ _ _ _ _ (by omega) (by omega) (cn_z iv_1 (if_neg (fun z => c_28 z.2))) hP hS (lv_sub hl [0,1,2] rfl)
          · skip
            refine lv_iconst (v := nI 1) hx hb dX7_widows_31 (by decide) ?_
            refine lv_goto (tgt := 36) hx hb dX7_widows_32 (by decide) ?_
            first
              | refine kadd hx hb dX7_widows_36 (by with_reducible rfl) (by with_reducible rfl) ?_
              | refine lv_iadd hx hb dX7_widows_36 ?_
            refine kist hx hb dX7_widows_37 rfl hl (by decide) (kp_3_1 rfl) (fun ls hl => ?_)
            first
              | refine kinc (q := 2) hx hb dX7_widows_38 hl rfl (by decide) (kp_3_2 rfl) (fun ls hl => ?_)
              | refine kincG (q := 2) hx hb dX7_widows_38 hl rfl (by decide) (kp_3_2 rfl) (fun ls hl => ?_)
            refine lv_goto (tgt := 4) hx hb dX7_widows_41 (by decide) ?_
            exact ih_4 _ _ _ _ _ (by omega) (by omega) (cn_p iv_1 (if_pos (And.intro c_20 c_28))) hP hS (lv_sub hl [0,1,2] rfl)
  exact lp_4 _ 0 0 _ _ _ (Nat.lt_succ_self _) (Nat.zero_le _) (rfl) hP hS (lv_sub hl [0,1,2] rfl)

def snM (N : Nat → Int32) (W r : Nat) (w : Int32) : Nat → Int32 := fun c => if w = 0 then N (809 + 3 * vA N W (nI c) (N (9 + 20 * r + 0)) + 2) else if olM N W (vA N W (nI c) (N (9 + 20 * r + 0))) then nI 1 else nI 0
set_option maxHeartbeats 4000000 in
set_option maxRecDepth 100000 in
theorem c_X7_seen (l : Launch) {D : va_G} {τ : Nat → ClassId} {ad : Nat → Nat} (hI : kInj ad) {G : Nat → Nat → Int32} {Wn r : Nat} {w : Int32} (hW : G 1 8 = nI Wn) (hW1 : 1 ≤ Wn) (hW6 : Wn ≤ 64) (hr : r < 40) : kM l yX7_seen cX7_seen 6 (some .int) { frames := 4, cells := 0, slots := 0, locals := 90 } D τ ad [.ref (ad 0), .int (nI r), .int w] G (fun v G' => v = (if G 1 (9 + 20 * r + 2) = 0 then sm (snM (G 1) Wn r w) 12 else nI 0) ∧ G' = G) := by
  refine kMet (own := RX7) (by decide) rfl (Nat.le_of_ble_eq_true rfl) ?_
  intro p9 e9 s9 m9 args9 below9 meth9 c9 Q9 X hx hb hP hS hret ls hl
  have hPs := hP
  have hl : lv_has ls 6 [(0, .ref (ad 0)), (1, .int (nI r)), (2, .int w)] := hl
  refine lv_iconst (v := nI 0) hx hb dX7_seen_0 (by decide) ?_
  refine kist hx hb dX7_seen_1 rfl hl (by decide) (kp_3_3 rfl) (fun ls hl => ?_)
  refine lv_iconst (v := nI 0) hx hb dX7_seen_2 (by decide) ?_
  refine kistW hx hb dX7_seen_3 hl (by decide) (kp_4_4 rfl) (fun ls hl => ?_)
  have lp_5 : ∀ (d : Nat) (x : Int32) (i : Nat) (H : Heap) (locs : List Loc) (ls : Array Slot), (12 - i) < d → (i ≤ 12) → (x = sm (snM (G 1) Wn r w) i) → (i = 0 ∨ G 1 (9 + 20 * r + 2) = 0) → va_P D vwCl (kW τ ad G) H → va_S (kAd ad) s9.heap H locs → lv_has ls 6 [(0, .ref (ad 0)), (1, .int (nI r)), (2, .int w), (3, .int x), (4, .int (nI i))] → W p9 l e9 { frames := 4, cells := 0, slots := 0, locals := 90 } s9 m9 args9 below9 meth9 c9 H locs 0 0 Q9 (F0 m9 5 ls []) := by
    intro d
    induction d with
    | zero => exact fun _ _ _ _ _ hd => absurd hd (Nat.not_lt_zero _)
    | succ d ih_5 =>
      intro x i H locs ls hd iv_0 iv_1 iv_2 hP hS hl
      refine lv_iload hx hb dX7_seen_5 (lv_at hl 4 rfl) ?_
      refine lv_bipush (v := nI 12) hx hb dX7_seen_7 (by decide) ?_
      first
        | refine kic_ge (tgt := 71) hx hb dX7_seen_9 (by decide) (by with_reducible rfl) (by with_reducible rfl) (by omega) (by omega) (fun c_9 => ?_) (fun c_9 => ?_)
        | refine lv_icmp_ge (tgt := 71) hx hb dX7_seen_9 (by decide) (fun c_9 => ?_) (fun c_9 => ?_)
      · skip
        refine lv_iload_n hx hb dX7_seen_71 rfl (lv_at hl 3 rfl) ?_
        exact hret _ _ _ _ _ _ (by refine ⟨?_, rfl⟩; rw [if_pos (iv_2.resolve_left (by omega)), iv_1, show i = 12 by omega]) hP hS dX7_seen_72
      · skip
        refine lv_aload_n hx hb dX7_seen_12 rfl (lv_at hl 0 rfl) ?_
        refine lv_iload_n hx hb dX7_seen_13 rfl (lv_at hl 1 rfl) ?_
        refine kcV X hP hS (c_X7_isOpen l hI (by first | assumption | omega)) oJ v_X7_64 ⟨Nat.le_of_ble_eq_true rfl, Nat.le_of_ble_eq_true rfl, rfl, rfl⟩ rfl rfl (Nat.le_of_ble_eq_true rfl) hl.1 ⟨Nat.zero_le _, Nat.zero_le _⟩ dX7_seen_14 (fun r_14 G_14 H locs hR hP hS => ?_)
        obtain ⟨rfl, hG_14⟩ := hR
        rw [hG_14] at hP
        clear hG_14
        first
          | refine kif_eq (tgt := 71) hx hb dX7_seen_17 (by decide) (fun c_17 => ?_) (fun c_17 => ?_)
          | refine lv_if_eq (tgt := 71) hx hb dX7_seen_17 (by decide) (fun c_17 => ?_) (fun c_17 => ?_)
        · skip
          refine lv_iload_n hx hb dX7_seen_71 rfl (lv_at hl 3 rfl) ?_
          exact hret _ _ _ _ _ _ (by refine ⟨?_, rfl⟩; rw [if_neg c_17, iv_1, (iv_2.resolve_right c_17)]; rfl) hP hS dX7_seen_72
        · skip
          refine lv_aload_n hx hb dX7_seen_20 rfl (lv_at hl 0 rfl) ?_
          refine lv_iload hx hb dX7_seen_21 (lv_at hl 4 rfl) ?_
          refine lv_aload_n hx hb dX7_seen_23 rfl (lv_at hl 0 rfl) ?_
          refine lv_iload_n hx hb dX7_seen_24 rfl (lv_at hl 1 rfl) ?_
          refine lv_iconst (v := nI 0) hx hb dX7_seen_25 (by decide) ?_
          refine kcV X hP hS (c_X7_ofR l hI (by first | assumption | omega)) oJ v_X7_32 ⟨Nat.le_of_ble_eq_true rfl, Nat.le_of_ble_eq_true rfl, rfl, rfl⟩ rfl rfl (Nat.le_of_ble_eq_true rfl) hl.1 ⟨Nat.zero_le _, Nat.zero_le _⟩ dX7_seen_26 (fun r_26 G_26 H locs hR hP hS => ?_)
          obtain ⟨rfl, hG_26⟩ := hR
          rw [hG_26] at hP
          clear hG_26
          refine kcV X hP hS (c_X7_versionAt l hI hW hW1 hW6) oJ v_X7_57 ⟨Nat.le_of_ble_eq_true rfl, Nat.le_of_ble_eq_true rfl, rfl, rfl⟩ rfl rfl (Nat.le_of_ble_eq_true rfl) hl.1 ⟨Nat.zero_le _, Nat.zero_le _⟩ dX7_seen_29 (fun r_29 G_29 H locs hR hP hS => ?_)
          obtain ⟨rfl, hG_29⟩ := hR
          rw [hG_29] at hP
          clear hG_29
          obtain ⟨a, ha⟩ : ∃ z, z = vA (G 1) Wn (nI i) (G 1 (9 + 20 * r + 0)) := ⟨_, rfl⟩
          rw [← ha]
          have hb_a : a < Wn := by rw [ha]; exact vA_lt hW1
          refine kistW hx hb dX7_seen_32 hl (by decide) (kp_5_5 rfl) (fun ls hl => ?_)
          refine lv_iload_n hx hb dX7_seen_34 rfl (lv_at hl 3 rfl) ?_
          refine lv_iload_n hx hb dX7_seen_35 rfl (lv_at hl 2 rfl) ?_
          first
            | refine kif_ne (tgt := 49) hx hb dX7_seen_36 (by decide) (fun c_36 => ?_) (fun c_36 => ?_)
            | refine lv_if_ne (tgt := 49) hx hb dX7_seen_36 (by decide) (fun c_36 => ?_) (fun c_36 => ?_)
          · skip
            refine lv_aload_n hx hb dX7_seen_49 rfl (lv_at hl 0 rfl) ?_
            refine lv_iload hx hb dX7_seen_50 (lv_at hl 5 rfl) ?_
            refine kcV X hP hS (c_X7_isOld l hI hW hW1 hW6 (by omega)) oJ v_X7_79 ⟨Nat.le_of_ble_eq_true rfl, Nat.le_of_ble_eq_true rfl, rfl, rfl⟩ rfl rfl (Nat.le_of_ble_eq_true rfl) hl.1 ⟨Nat.zero_le _, Nat.zero_le _⟩ dX7_seen_52 (fun r_52 G_52 H locs hR hP hS => ?_)
            obtain ⟨rfl, hG_52⟩ := hR
            rw [hG_52] at hP
            clear hG_52
            first
              | refine kif_eq (tgt := 62) hx hb dX7_seen_55 (by decide) (fun c_55 => ?_) (fun c_55 => ?_)
              | refine lv_if_eq (tgt := 62) hx hb dX7_seen_55 (by decide) (fun c_55 => ?_) (fun c_55 => ?_)
            · skip
              refine lv_iconst (v := nI 0) hx hb dX7_seen_62 (by decide) ?_
              refine lv_iadd hx hb dX7_seen_63 ?_
              refine kist hx hb dX7_seen_64 rfl hl (by decide) (kp_6_3 rfl) (fun ls hl => ?_)
              first
                | refine kinc (q := 4) hx hb dX7_seen_65 hl rfl (by decide) (kp_6_4 rfl) (fun ls hl => ?_)
                | refine kincG (q := 4) hx hb dX7_seen_65 hl rfl (by decide) (kp_6_4 rfl) (fun ls hl => ?_)
              refine lv_goto (tgt := 5) hx hb dX7_seen_68 (by decide) ?_
              exact ih_5 _ _ _ _ _ (by omega) (by omega) (sm_s iv_1 ((if_neg c_36).trans ((if_neg (by rw [← ha]; exact c_55))))) (Or.inr c_17) hP hS (lv_sub hl [0,1,2,3,4] rfl)
            · skip
              refine lv_iconst (v := nI 1) hx hb dX7_seen_58 (by decide) ?_
              refine lv_goto (tgt := 63) hx hb dX7_seen_59 (by decide) ?_
              refine lv_iadd hx hb dX7_seen_63 ?_
              refine kist hx hb dX7_seen_64 rfl hl (by decide) (kp_6_3 rfl) (fun ls hl => ?_)
              first
                | refine kinc (q := 4) hx hb dX7_seen_65 hl rfl (by decide) (kp_6_4 rfl) (fun ls hl => ?_)
                | refine kincG (q := 4) hx hb dX7_seen_65 hl rfl (by decide) (kp_6_4 rfl) (fun ls hl => ?_)
              refine lv_goto (tgt := 5) hx hb dX7_seen_68 (by decide) ?_
              exact ih_5 _ _ _ _ _ (by omega) (by omega) (sm_s iv_1 ((if_neg c_36).trans ((if_pos (by rw [← ha]; exact c_55))))) (Or.inr c_17) hP hS (lv_sub hl [0,1,2,3,4] rfl)
          · skip
            refine lv_aload_n hx hb dX7_seen_39 rfl (lv_at hl 0 rfl) ?_
            refine lv_iload hx hb dX7_seen_40 (lv_at hl 5 rfl) ?_
            refine lv_iconst (v := nI 2) hx hb dX7_seen_42 (by decide) ?_
            refine kcV X hP hS (c_X7_ofV l hI (by first | assumption | omega)) oJ v_X7_54 ⟨Nat.le_of_ble_eq_true rfl, Nat.le_of_ble_eq_true rfl, rfl, rfl⟩ rfl rfl (Nat.le_of_ble_eq_true rfl) hl.1 ⟨Nat.zero_le _, Nat.zero_le _⟩ dX7_seen_43 (fun r_43 G_43 H locs hR hP hS => ?_)
            obtain ⟨rfl, hG_43⟩ := hR
            rw [hG_43] at hP
            clear hG_43
            refine lv_goto (tgt := 63) hx hb dX7_seen_46 (by decide) ?_
            refine lv_iadd hx hb dX7_seen_63 ?_
            refine kist hx hb dX7_seen_64 rfl hl (by decide) (kp_6_3 rfl) (fun ls hl => ?_)
            first
              | refine kinc (q := 4) hx hb dX7_seen_65 hl rfl (by decide) (kp_6_4 rfl) (fun ls hl => ?_)
              | refine kincG (q := 4) hx hb dX7_seen_65 hl rfl (by decide) (kp_6_4 rfl) (fun ls hl => ?_)
            refine lv_goto (tgt := 5) hx hb dX7_seen_68 (by decide) ?_
            exact ih_5 _ _ _ _ _ (by omega) (by omega) (sm_s iv_1 ((if_pos c_36).trans (by rw [← ha]))) (Or.inr c_17) hP hS (lv_sub hl [0,1,2,3,4] rfl)
  exact lp_5 _ (nI 0) 0 _ _ _ (Nat.lt_succ_self _) (Nat.zero_le _) (rfl) (Or.inl rfl) hP hS (lv_sub hl [0,1,2,3,4] rfl)

set_option maxHeartbeats 4000000 in
set_option maxRecDepth 100000 in
theorem c_X7_hasConflict (l : Launch) {D : va_G} {τ : Nat → ClassId} {ad : Nat → Nat} (hI : kInj ad) {G : Nat → Nat → Int32} {Wn r : Nat} (hW : G 1 8 = nI Wn) (hW1 : 1 ≤ Wn) (hW6 : Wn ≤ 64) (hr : r < 40) : kM l yX7_hasConflict cX7_hasConflict 4 (some .boolean) { frames := 3, cells := 0, slots := 0, locals := 69 } D τ ad [.ref (ad 0), .int (nI r)] G (fun v G' => v = fl (cfM (G 1) Wn r) 12 ∧ G' = G) := by
  refine kMetZ (own := RX7) (by decide) rfl (Nat.le_of_ble_eq_true rfl) ?_
  intro p9 e9 s9 m9 args9 below9 meth9 c9 Q9 X hx hb hP hS hret ls hl
  have hPs := hP
  have hl : lv_has ls 4 [(0, .ref (ad 0)), (1, .int (nI r))] := hl
  refine lv_iconst (v := nI 0) hx hb dX7_hasConflict_0 (by decide) ?_
  refine kist hx hb dX7_hasConflict_1 rfl hl (by decide) (kp_2_2 rfl) (fun ls hl => ?_)
  refine lv_iconst (v := nI 0) hx hb dX7_hasConflict_2 (by decide) ?_
  refine kist hx hb dX7_hasConflict_3 rfl hl (by decide) (kp_3_3 rfl) (fun ls hl => ?_)
  have lp_4 : ∀ (d : Nat) (x : Int32) (i : Nat) (H : Heap) (locs : List Loc) (ls : Array Slot), (12 - i) < d → (i ≤ 12) → (x = fl (cfM (G 1) Wn r) i) → va_P D vwCl (kW τ ad G) H → va_S (kAd ad) s9.heap H locs → lv_has ls 4 [(0, .ref (ad 0)), (1, .int (nI r)), (2, .int x), (3, .int (nI i))] → W p9 l e9 { frames := 3, cells := 0, slots := 0, locals := 69 } s9 m9 args9 below9 meth9 c9 H locs 0 0 Q9 (F0 m9 4 ls []) := by
    intro d
    induction d with
    | zero => exact fun _ _ _ _ _ hd => absurd hd (Nat.not_lt_zero _)
    | succ d ih_4 =>
      intro x i H locs ls hd iv_0 iv_1 hP hS hl
      refine lv_iload_n hx hb dX7_hasConflict_4 rfl (lv_at hl 3 rfl) ?_
      refine lv_bipush (v := nI 12) hx hb dX7_hasConflict_5 (by decide) ?_
      first
        | refine kic_ge (tgt := 58) hx hb dX7_hasConflict_7 (by decide) (by with_reducible rfl) (by with_reducible rfl) (by omega) (by omega) (fun c_7 => ?_) (fun c_7 => ?_)
        | refine lv_icmp_ge (tgt := 58) hx hb dX7_hasConflict_7 (by decide) (fun c_7 => ?_) (fun c_7 => ?_)
      · skip
        refine lv_iload_n hx hb dX7_hasConflict_58 rfl (lv_at hl 2 rfl) ?_
        exact hret _ _ _ _ _ _ (by rw [iv_1]; exact fl_01 _ _) (⟨iv_1.trans (by rw [show i = 12 by omega]), rfl⟩) hP hS dX7_hasConflict_59
      · skip
        refine lv_iload_n hx hb dX7_hasConflict_10 rfl (lv_at hl 2 rfl) ?_
        first
          | refine kif_ne (tgt := 46) hx hb dX7_hasConflict_11 (by decide) (fun c_11 => ?_) (fun c_11 => ?_)
          | refine lv_if_ne (tgt := 46) hx hb dX7_hasConflict_11 (by decide) (fun c_11 => ?_) (fun c_11 => ?_)
        · skip
          refine lv_iconst (v := nI 1) hx hb dX7_hasConflict_46 (by decide) ?_
          refine lv_goto (tgt := 51) hx hb dX7_hasConflict_47 (by decide) ?_
          refine kist hx hb dX7_hasConflict_51 rfl hl (by decide) (kp_4_2 rfl) (fun ls hl => ?_)
          first
            | refine kinc (q := 3) hx hb dX7_hasConflict_52 hl rfl (by decide) (kp_4_3 rfl) (fun ls hl => ?_)
            | refine kincG (q := 3) hx hb dX7_hasConflict_52 hl rfl (by decide) (kp_4_3 rfl) (fun ls hl => ?_)
          refine lv_goto (tgt := 4) hx hb dX7_hasConflict_55 (by decide) ?_
          exact ih_4 _ _ _ _ _ (by omega) (by omega) (fl_k iv_1 c_11) hP hS (lv_sub hl [0,1,2,3] rfl)
        · skip
          refine lv_aload_n hx hb dX7_hasConflict_14 rfl (lv_at hl 0 rfl) ?_
          refine lv_iload_n hx hb dX7_hasConflict_15 rfl (lv_at hl 1 rfl) ?_
          refine lv_iconst (v := nI 4) hx hb dX7_hasConflict_16 (by decide) ?_
          refine kcV X hP hS (c_X7_ofR l hI (by first | assumption | omega)) oJ v_X7_32 ⟨Nat.le_of_ble_eq_true rfl, Nat.le_of_ble_eq_true rfl, rfl, rfl⟩ rfl rfl (Nat.le_of_ble_eq_true rfl) hl.1 ⟨Nat.zero_le _, Nat.zero_le _⟩ dX7_hasConflict_17 (fun r_17 G_17 H locs hR hP hS => ?_)
          obtain ⟨rfl, hG_17⟩ := hR
          rw [hG_17] at hP
          clear hG_17
          refine lv_iload_n hx hb dX7_hasConflict_20 rfl (lv_at hl 3 rfl) ?_
          refine kcS X hP hS (c_X7_has l hI) v_X7_111 ⟨Nat.le_of_ble_eq_true rfl, Nat.le_of_ble_eq_true rfl, rfl, rfl⟩ rfl rfl (Nat.le_of_ble_eq_true rfl) hl.1 ⟨Nat.zero_le _, Nat.zero_le _⟩ dX7_hasConflict_21 (fun r_21 G_21 H locs hR hP hS => ?_)
          obtain ⟨rfl, hG_21⟩ := hR
          rw [hG_21] at hP
          clear hG_21
          first
            | refine kif_eq (tgt := 50) hx hb dX7_hasConflict_24 (by decide) (fun c_24 => ?_) (fun c_24 => ?_)
            | refine lv_if_eq (tgt := 50) hx hb dX7_hasConflict_24 (by decide) (fun c_24 => ?_) (fun c_24 => ?_)
          · skip
            refine lv_iconst (v := nI 0) hx hb dX7_hasConflict_50 (by decide) ?_
            refine kist hx hb dX7_hasConflict_51 rfl hl (by decide) (kp_4_2 rfl) (fun ls hl => ?_)
            first
              | refine kinc (q := 3) hx hb dX7_hasConflict_52 hl rfl (by decide) (kp_4_3 rfl) (fun ls hl => ?_)
              | refine kincG (q := 3) hx hb dX7_hasConflict_52 hl rfl (by decide) (kp_4_3 rfl) (fun ls hl => ?_)
            refine lv_goto (tgt := 4) hx hb dX7_hasConflict_55 (by decide) ?_
            exact ih_4 _ _ _ _ _ (by omega) (by omega) (fl_o iv_1 c_11 (if_neg (fun z => c_24 z.1))) hP hS (lv_sub hl [0,1,2,3] rfl)
          · skip
            refine lv_aload_n hx hb dX7_hasConflict_27 rfl (lv_at hl 0 rfl) ?_
            refine lv_aload_n hx hb dX7_hasConflict_28 rfl (lv_at hl 0 rfl) ?_
            refine lv_iload_n hx hb dX7_hasConflict_29 rfl (lv_at hl 3 rfl) ?_
            refine kcV X hP hS (c_X7_newest l hI hW hW1 hW6) oJ v_X7_60 ⟨Nat.le_of_ble_eq_true rfl, Nat.le_of_ble_eq_true rfl, rfl, rfl⟩ rfl rfl (Nat.le_of_ble_eq_true rfl) hl.1 ⟨Nat.zero_le _, Nat.zero_le _⟩ dX7_hasConflict_30 (fun r_30 G_30 H locs hR hP hS => ?_)
            obtain ⟨rfl, hG_30⟩ := hR
            rw [hG_30] at hP
            clear hG_30
            obtain ⟨a, ha⟩ : ∃ z, z = vA (G 1) Wn (nI i) (G 1 0) := ⟨_, rfl⟩
            rw [← ha]
            have hb_a : a < Wn := by rw [ha]; exact vA_lt hW1
            refine lv_iconst (v := nI 1) hx hb dX7_hasConflict_33 (by decide) ?_
            refine kcV X hP hS (c_X7_ofV l hI (by first | assumption | omega)) oJ v_X7_54 ⟨Nat.le_of_ble_eq_true rfl, Nat.le_of_ble_eq_true rfl, rfl, rfl⟩ rfl rfl (Nat.le_of_ble_eq_true rfl) hl.1 ⟨Nat.zero_le _, Nat.zero_le _⟩ dX7_hasConflict_34 (fun r_34 G_34 H locs hR hP hS => ?_)
            obtain ⟨rfl, hG_34⟩ := hR
            rw [hG_34] at hP
            clear hG_34
            refine lv_aload_n hx hb dX7_hasConflict_37 rfl (lv_at hl 0 rfl) ?_
            refine lv_iload_n hx hb dX7_hasConflict_38 rfl (lv_at hl 1 rfl) ?_
            refine lv_iconst (v := nI 0) hx hb dX7_hasConflict_39 (by decide) ?_
            refine kcV X hP hS (c_X7_ofR l hI (by first | assumption | omega)) oJ v_X7_32 ⟨Nat.le_of_ble_eq_true rfl, Nat.le_of_ble_eq_true rfl, rfl, rfl⟩ rfl rfl (Nat.le_of_ble_eq_true rfl) hl.1 ⟨Nat.zero_le _, Nat.zero_le _⟩ dX7_hasConflict_40 (fun r_40 G_40 H locs hR hP hS => ?_)
            obtain ⟨rfl, hG_40⟩ := hR
            rw [hG_40] at hP
            clear hG_40
            first
              | refine kic_le (tgt := 50) hx hb dX7_hasConflict_43 (by decide) (by with_reducible rfl) (by with_reducible rfl) (by omega) (by omega) (fun c_43 => ?_) (fun c_43 => ?_)
              | refine lv_icmp_le (tgt := 50) hx hb dX7_hasConflict_43 (by decide) (fun c_43 => ?_) (fun c_43 => ?_)
            · skip
              refine lv_iconst (v := nI 0) hx hb dX7_hasConflict_50 (by decide) ?_
              refine kist hx hb dX7_hasConflict_51 rfl hl (by decide) (kp_4_2 rfl) (fun ls hl => ?_)
              first
                | refine kinc (q := 3) hx hb dX7_hasConflict_52 hl rfl (by decide) (kp_4_3 rfl) (fun ls hl => ?_)
                | refine kincG (q := 3) hx hb dX7_hasConflict_52 hl rfl (by decide) (kp_4_3 rfl) (fun ls hl => ?_)
              refine lv_goto (tgt := 4) hx hb dX7_hasConflict_55 (by decide) ?_
              exact ih_4 _ _ _ _ _ (by omega) (by omega) (fl_o iv_1 c_11 (if_neg (fun z => Int32.not_le.mpr z.2 (by rw [← ha]; exact c_43)))) hP hS (lv_sub hl [0,1,2,3] rfl)
            · skip
              refine lv_iconst (v := nI 1) hx hb dX7_hasConflict_46 (by decide) ?_
              refine lv_goto (tgt := 51) hx hb dX7_hasConflict_47 (by decide) ?_
              refine kist hx hb dX7_hasConflict_51 rfl hl (by decide) (kp_4_2 rfl) (fun ls hl => ?_)
              first
                | refine kinc (q := 3) hx hb dX7_hasConflict_52 hl rfl (by decide) (kp_4_3 rfl) (fun ls hl => ?_)
                | refine kincG (q := 3) hx hb dX7_hasConflict_52 hl rfl (by decide) (kp_4_3 rfl) (fun ls hl => ?_)
              refine lv_goto (tgt := 4) hx hb dX7_hasConflict_55 (by decide) ?_
              exact ih_4 _ _ _ _ _ (by omega) (by omega) (fl_p (if_pos ⟨c_24, by rw [← ha]; exact Int32.not_le.mp c_43⟩)) hP hS (lv_sub hl [0,1,2,3] rfl)
  exact lp_4 _ (nI 0) 0 _ _ _ (Nat.lt_succ_self _) (Nat.zero_le _) (rfl) hP hS (lv_sub hl [0,1,2,3] rfl)

set_option maxHeartbeats 4000000 in
set_option maxRecDepth 100000 in
theorem c_X7_areSkew (l : Launch) {D : va_G} {τ : Nat → ClassId} {ad : Nat → Nat} (hI : kInj ad) {G : Nat → Nat → Int32} {a b c d : Int32} : kM l yX7_areSkew cX7_areSkew 4 (some .boolean) { frames := 0, cells := 0, slots := 0, locals := 0 } D τ ad [.int a, .int b, .int c, .int d] G (fun v G' => v = (if skM a b c d then 1 else 0) ∧ G' = G) := by
  refine kMetZ (own := RX7) (by decide) rfl (Nat.le_of_ble_eq_true rfl) ?_
  intro p9 e9 s9 m9 args9 below9 meth9 c9 Q9 X hx hb hP hS hret ls hl
  have hPs := hP
  have hl : lv_has ls 4 [(0, .int a), (1, .int b), (2, .int c), (3, .int d)] := hl
  refine lv_iload_n hx hb dX7_areSkew_0 rfl (lv_at hl 1 rfl) ?_
  refine lv_iload_n hx hb dX7_areSkew_1 rfl (lv_at hl 2 rfl) ?_
  refine lv_iand hx hb dX7_areSkew_2 ?_
  first
    | refine kif_eq (tgt := 22) hx hb dX7_areSkew_3 (by decide) (fun c_3 => ?_) (fun c_3 => ?_)
    | refine lv_if_eq (tgt := 22) hx hb dX7_areSkew_3 (by decide) (fun c_3 => ?_) (fun c_3 => ?_)
  · skip
    refine lv_iconst (v := nI 0) hx hb dX7_areSkew_22 (by decide) ?_
    exact hret _ _ _ _ _ _ (by decide) (⟨(if_neg (fun z => z.1 c_3)).symm, rfl⟩) hP hS dX7_areSkew_23
  · skip
    refine lv_iload_n hx hb dX7_areSkew_6 rfl (lv_at hl 3 rfl) ?_
    refine lv_iload_n hx hb dX7_areSkew_7 rfl (lv_at hl 0 rfl) ?_
    refine lv_iand hx hb dX7_areSkew_8 ?_
    first
      | refine kif_eq (tgt := 22) hx hb dX7_areSkew_9 (by decide) (fun c_9 => ?_) (fun c_9 => ?_)
      | refine lv_if_eq (tgt := 22) hx hb dX7_areSkew_9 (by decide) (fun c_9 => ?_) (fun c_9 => ?_)
    · skip
      refine lv_iconst (v := nI 0) hx hb dX7_areSkew_22 (by decide) ?_
      exact hret _ _ _ _ _ _ (by decide) (⟨(if_neg (fun z => z.2.1 c_9)).symm, rfl⟩) hP hS dX7_areSkew_23
    · skip
      refine lv_iload_n hx hb dX7_areSkew_12 rfl (lv_at hl 0 rfl) ?_
      refine lv_iload_n hx hb dX7_areSkew_13 rfl (lv_at hl 2 rfl) ?_
      refine lv_iand hx hb dX7_areSkew_14 ?_
      first
        | refine kif_ne (tgt := 22) hx hb dX7_areSkew_15 (by decide) (fun c_15 => ?_) (fun c_15 => ?_)
        | refine lv_if_ne (tgt := 22) hx hb dX7_areSkew_15 (by decide) (fun c_15 => ?_) (fun c_15 => ?_)
      · skip
        refine lv_iconst (v := nI 0) hx hb dX7_areSkew_22 (by decide) ?_
        exact hret _ _ _ _ _ _ (by decide) (⟨(if_neg (fun z => c_15 z.2.2)).symm, rfl⟩) hP hS dX7_areSkew_23
      · skip
        refine lv_iconst (v := nI 1) hx hb dX7_areSkew_18 (by decide) ?_
        refine lv_goto (tgt := 23) hx hb dX7_areSkew_19 (by decide) ?_
        exact hret _ _ _ _ _ _ (by decide) (⟨(if_pos ⟨c_3, c_9, c_15⟩).symm, rfl⟩) hP hS dX7_areSkew_23

set_option maxHeartbeats 4000000 in
set_option maxRecDepth 100000 in
theorem c_X7_skewsOf (l : Launch) {D : va_G} {τ : Nat → ClassId} {ad : Nat → Nat} (hI : kInj ad) {G : Nat → Nat → Int32} {r k : Nat} (hk : G 1 6 = nI k) (hk4 : k ≤ 40) (hr : r < 40) : kM l yX7_skewsOf cX7_skewsOf 5 (some .int) { frames := 1, cells := 0, slots := 0, locals := 23 } D τ ad [.ref (ad 0), .int (nI r)] G (fun v G' => v = nI (cn (ssM (G 1) r) k) ∧ G' = G) := by
  refine kMet (own := RX7) (by decide) rfl (Nat.le_of_ble_eq_true rfl) ?_
  intro p9 e9 s9 m9 args9 below9 meth9 c9 Q9 X hx hb hP hS hret ls hl
  have hPs := hP
  have hl : lv_has ls 5 [(0, .ref (ad 0)), (1, .int (nI r))] := hl
  refine lv_iconst (v := nI 0) hx hb dX7_skewsOf_0 (by decide) ?_
  refine kist hx hb dX7_skewsOf_1 rfl hl (by decide) (kp_2_2 rfl) (fun ls hl => ?_)
  refine lv_iconst (v := nI 0) hx hb dX7_skewsOf_2 (by decide) ?_
  refine kist hx hb dX7_skewsOf_3 rfl hl (by decide) (kp_3_3 rfl) (fun ls hl => ?_)
  have lp_4 : ∀ (d : Nat) (i x : Nat) (H : Heap) (locs : List Loc) (ls : Array Slot), (k - i) < d → (i ≤ k) → (x = cn (ssM (G 1) r) i) → va_P D vwCl (kW τ ad G) H → va_S (kAd ad) s9.heap H locs → lv_has ls 5 [(0, .ref (ad 0)), (1, .int (nI r)), (2, .int (nI x)), (3, .int (nI i))] → W p9 l e9 { frames := 1, cells := 0, slots := 0, locals := 23 } s9 m9 args9 below9 meth9 c9 H locs 0 0 Q9 (F0 m9 4 ls []) := by
    intro d
    induction d with
    | zero => exact fun _ _ _ _ _ hd => absurd hd (Nat.not_lt_zero _)
    | succ d ih_4 =>
      intro i x H locs ls hd iv_0 iv_1 hP hS hl
      refine lv_iload_n hx hb dX7_skewsOf_4 rfl (lv_at hl 3 rfl) ?_
      refine lv_aload_n hx hb dX7_skewsOf_5 rfl (lv_at hl 0 rfl) ?_
      refine kget X hP oJ g_X7_7 rfl dX7_skewsOf_6 ?_
      refine lv_bipush (v := nI 6) hx hb dX7_skewsOf_9 (by decide) ?_
      refine kiald X hP aJ1 (by omega) dX7_skewsOf_11 ?_
      rw [hk]
      first
        | refine kic_ge (tgt := 103) hx hb dX7_skewsOf_12 (by decide) (by with_reducible rfl) (by with_reducible rfl) (by omega) (by omega) (fun c_12 => ?_) (fun c_12 => ?_)
        | refine lv_icmp_ge (tgt := 103) hx hb dX7_skewsOf_12 (by decide) (fun c_12 => ?_) (fun c_12 => ?_)
      · skip
        refine lv_iload_n hx hb dX7_skewsOf_103 rfl (lv_at hl 2 rfl) ?_
        exact hret _ _ _ _ _ _ (⟨congrArg nI (iv_1.trans (by rw [show i = k by omega])), rfl⟩) hP hS dX7_skewsOf_104
      · skip
        refine lv_aload_n hx hb dX7_skewsOf_15 rfl (lv_at hl 0 rfl) ?_
        refine lv_iload_n hx hb dX7_skewsOf_16 rfl (lv_at hl 1 rfl) ?_
        refine lv_iconst (v := nI 0) hx hb dX7_skewsOf_17 (by decide) ?_
        refine kcV X hP hS (c_X7_ofR l hI (by first | assumption | omega)) oJ v_X7_32 ⟨Nat.le_of_ble_eq_true rfl, Nat.le_of_ble_eq_true rfl, rfl, rfl⟩ rfl rfl (Nat.le_of_ble_eq_true rfl) hl.1 ⟨Nat.zero_le _, Nat.zero_le _⟩ dX7_skewsOf_18 (fun r_18 G_18 H locs hR hP hS => ?_)
        obtain ⟨rfl, hG_18⟩ := hR
        rw [hG_18] at hP
        clear hG_18
        refine lv_aload_n hx hb dX7_skewsOf_21 rfl (lv_at hl 0 rfl) ?_
        refine lv_iload_n hx hb dX7_skewsOf_22 rfl (lv_at hl 3 rfl) ?_
        refine lv_iconst (v := nI 2) hx hb dX7_skewsOf_23 (by decide) ?_
        refine kcV X hP hS (c_X7_ofC l hI (by first | assumption | omega)) oJ v_X7_120 ⟨Nat.le_of_ble_eq_true rfl, Nat.le_of_ble_eq_true rfl, rfl, rfl⟩ rfl rfl (Nat.le_of_ble_eq_true rfl) hl.1 ⟨Nat.zero_le _, Nat.zero_le _⟩ dX7_skewsOf_24 (fun r_24 G_24 H locs hR hP hS => ?_)
        obtain ⟨rfl, hG_24⟩ := hR
        rw [hG_24] at hP
        clear hG_24
        first
          | refine kic_ge (tgt := 51) hx hb dX7_skewsOf_27 (by decide) (by with_reducible rfl) (by with_reducible rfl) (by omega) (by omega) (fun c_27 => ?_) (fun c_27 => ?_)
          | refine lv_icmp_ge (tgt := 51) hx hb dX7_skewsOf_27 (by decide) (fun c_27 => ?_) (fun c_27 => ?_)
        · skip
          refine lv_iconst (v := nI 0) hx hb dX7_skewsOf_51 (by decide) ?_
          refine kistW hx hb dX7_skewsOf_52 hl (by decide) (kp_4_4 rfl) (fun ls hl => ?_)
          refine lv_iload_n hx hb dX7_skewsOf_54 rfl (lv_at hl 2 rfl) ?_
          refine lv_iload hx hb dX7_skewsOf_55 (lv_at hl 4 rfl) ?_
          first
            | refine kif_eq (tgt := 94) hx hb dX7_skewsOf_57 (by decide) (fun c_57 => ?_) (fun c_57 => ?_)
            | refine lv_if_eq (tgt := 94) hx hb dX7_skewsOf_57 (by decide) (fun c_57 => ?_) (fun c_57 => ?_)
          · skip
            refine lv_iconst (v := nI 0) hx hb dX7_skewsOf_94 (by decide) ?_
            first
              | refine kadd hx hb dX7_skewsOf_95 (by with_reducible rfl) (by with_reducible rfl) ?_
              | refine lv_iadd hx hb dX7_skewsOf_95 ?_
            refine kist hx hb dX7_skewsOf_96 rfl hl (by decide) (kp_5_2 rfl) (fun ls hl => ?_)
            first
              | refine kinc (q := 3) hx hb dX7_skewsOf_97 hl rfl (by decide) (kp_5_3 rfl) (fun ls hl => ?_)
              | refine kincG (q := 3) hx hb dX7_skewsOf_97 hl rfl (by decide) (kp_5_3 rfl) (fun ls hl => ?_)
            refine lv_goto (tgt := 4) hx hb dX7_skewsOf_100 (by decide) ?_
            exact ih_4 _ _ _ _ _ (by omega) (by omega) (cn_z iv_1 (if_neg (fun z => Int32.not_le.mpr z.1.1 c_27))) hP hS (lv_sub hl [0,1,2,3] rfl)
          · skip
            exact absurd rfl c_57
        · skip
          refine lv_aload_n hx hb dX7_skewsOf_30 rfl (lv_at hl 0 rfl) ?_
          refine lv_iload_n hx hb dX7_skewsOf_31 rfl (lv_at hl 3 rfl) ?_
          refine lv_iconst (v := nI 1) hx hb dX7_skewsOf_32 (by decide) ?_
          refine kcV X hP hS (c_X7_ofC l hI (by first | assumption | omega)) oJ v_X7_120 ⟨Nat.le_of_ble_eq_true rfl, Nat.le_of_ble_eq_true rfl, rfl, rfl⟩ rfl rfl (Nat.le_of_ble_eq_true rfl) hl.1 ⟨Nat.zero_le _, Nat.zero_le _⟩ dX7_skewsOf_33 (fun r_33 G_33 H locs hR hP hS => ?_)
          obtain ⟨rfl, hG_33⟩ := hR
          rw [hG_33] at hP
          clear hG_33
          refine lv_aload_n hx hb dX7_skewsOf_36 rfl (lv_at hl 0 rfl) ?_
          refine kget X hP oJ g_X7_7 rfl dX7_skewsOf_37 ?_
          refine lv_iconst (v := nI 0) hx hb dX7_skewsOf_40 (by decide) ?_
          refine kiald X hP aJ1 (by omega) dX7_skewsOf_41 ?_
          refine lv_iconst (v := nI 1) hx hb dX7_skewsOf_42 (by decide) ?_
          refine lv_iadd hx hb dX7_skewsOf_43 ?_
          first
            | refine kic_ge (tgt := 51) hx hb dX7_skewsOf_44 (by decide) (by with_reducible rfl) (by with_reducible rfl) (by omega) (by omega) (fun c_44 => ?_) (fun c_44 => ?_)
            | refine lv_icmp_ge (tgt := 51) hx hb dX7_skewsOf_44 (by decide) (fun c_44 => ?_) (fun c_44 => ?_)
          · skip
            refine lv_iconst (v := nI 0) hx hb dX7_skewsOf_51 (by decide) ?_
            refine kistW hx hb dX7_skewsOf_52 hl (by decide) (kp_4_4 rfl) (fun ls hl => ?_)
            refine lv_iload_n hx hb dX7_skewsOf_54 rfl (lv_at hl 2 rfl) ?_
            refine lv_iload hx hb dX7_skewsOf_55 (lv_at hl 4 rfl) ?_
            first
              | refine kif_eq (tgt := 94) hx hb dX7_skewsOf_57 (by decide) (fun c_57 => ?_) (fun c_57 => ?_)
              | refine lv_if_eq (tgt := 94) hx hb dX7_skewsOf_57 (by decide) (fun c_57 => ?_) (fun c_57 => ?_)
            · skip
              refine lv_iconst (v := nI 0) hx hb dX7_skewsOf_94 (by decide) ?_
              first
                | refine kadd hx hb dX7_skewsOf_95 (by with_reducible rfl) (by with_reducible rfl) ?_
                | refine lv_iadd hx hb dX7_skewsOf_95 ?_
              refine kist hx hb dX7_skewsOf_96 rfl hl (by decide) (kp_5_2 rfl) (fun ls hl => ?_)
              first
                | refine kinc (q := 3) hx hb dX7_skewsOf_97 hl rfl (by decide) (kp_5_3 rfl) (fun ls hl => ?_)
                | refine kincG (q := 3) hx hb dX7_skewsOf_97 hl rfl (by decide) (kp_5_3 rfl) (fun ls hl => ?_)
              refine lv_goto (tgt := 4) hx hb dX7_skewsOf_100 (by decide) ?_
              exact ih_4 _ _ _ _ _ (by omega) (by omega) (cn_z iv_1 (if_neg (fun z => Int32.not_le.mpr z.1.2 c_44))) hP hS (lv_sub hl [0,1,2,3] rfl)
            · skip
              exact absurd rfl c_57
          · skip
            refine lv_iconst (v := nI 1) hx hb dX7_skewsOf_47 (by decide) ?_
            refine lv_goto (tgt := 52) hx hb dX7_skewsOf_48 (by decide) ?_
            refine kistW hx hb dX7_skewsOf_52 hl (by decide) (kp_4_4 rfl) (fun ls hl => ?_)
            refine lv_iload_n hx hb dX7_skewsOf_54 rfl (lv_at hl 2 rfl) ?_
            refine lv_iload hx hb dX7_skewsOf_55 (lv_at hl 4 rfl) ?_
            first
              | refine kif_eq (tgt := 94) hx hb dX7_skewsOf_57 (by decide) (fun c_57 => ?_) (fun c_57 => ?_)
              | refine lv_if_eq (tgt := 94) hx hb dX7_skewsOf_57 (by decide) (fun c_57 => ?_) (fun c_57 => ?_)
            · skip
              exact absurd c_57 (by decide)
            · skip
              refine lv_aload_n hx hb dX7_skewsOf_60 rfl (lv_at hl 0 rfl) ?_
              refine lv_iload_n hx hb dX7_skewsOf_61 rfl (lv_at hl 1 rfl) ?_
              refine lv_iconst (v := nI 4) hx hb dX7_skewsOf_62 (by decide) ?_
              refine kcV X hP hS (c_X7_ofR l hI (by first | assumption | omega)) oJ v_X7_32 ⟨Nat.le_of_ble_eq_true rfl, Nat.le_of_ble_eq_true rfl, rfl, rfl⟩ rfl rfl (Nat.le_of_ble_eq_true rfl) hl.1 ⟨Nat.zero_le _, Nat.zero_le _⟩ dX7_skewsOf_63 (fun r_63 G_63 H locs hR hP hS => ?_)
              obtain ⟨rfl, hG_63⟩ := hR
              rw [hG_63] at hP
              clear hG_63
              refine lv_aload_n hx hb dX7_skewsOf_66 rfl (lv_at hl 0 rfl) ?_
              refine lv_iload_n hx hb dX7_skewsOf_67 rfl (lv_at hl 1 rfl) ?_
              refine lv_iconst (v := nI 3) hx hb dX7_skewsOf_68 (by decide) ?_
              refine kcV X hP hS (c_X7_ofR l hI (by first | assumption | omega)) oJ v_X7_32 ⟨Nat.le_of_ble_eq_true rfl, Nat.le_of_ble_eq_true rfl, rfl, rfl⟩ rfl rfl (Nat.le_of_ble_eq_true rfl) hl.1 ⟨Nat.zero_le _, Nat.zero_le _⟩ dX7_skewsOf_69 (fun r_69 G_69 H locs hR hP hS => ?_)
              obtain ⟨rfl, hG_69⟩ := hR
              rw [hG_69] at hP
              clear hG_69
              refine lv_aload_n hx hb dX7_skewsOf_72 rfl (lv_at hl 0 rfl) ?_
              refine lv_iload_n hx hb dX7_skewsOf_73 rfl (lv_at hl 3 rfl) ?_
              refine lv_iconst (v := nI 3) hx hb dX7_skewsOf_74 (by decide) ?_
              refine kcV X hP hS (c_X7_ofC l hI (by first | assumption | omega)) oJ v_X7_120 ⟨Nat.le_of_ble_eq_true rfl, Nat.le_of_ble_eq_true rfl, rfl, rfl⟩ rfl rfl (Nat.le_of_ble_eq_true rfl) hl.1 ⟨Nat.zero_le _, Nat.zero_le _⟩ dX7_skewsOf_75 (fun r_75 G_75 H locs hR hP hS => ?_)
              obtain ⟨rfl, hG_75⟩ := hR
              rw [hG_75] at hP
              clear hG_75
              refine lv_aload_n hx hb dX7_skewsOf_78 rfl (lv_at hl 0 rfl) ?_
              refine lv_iload_n hx hb dX7_skewsOf_79 rfl (lv_at hl 3 rfl) ?_
              refine lv_iconst (v := nI 4) hx hb dX7_skewsOf_80 (by decide) ?_
              refine kcV X hP hS (c_X7_ofC l hI (by first | assumption | omega)) oJ v_X7_120 ⟨Nat.le_of_ble_eq_true rfl, Nat.le_of_ble_eq_true rfl, rfl, rfl⟩ rfl rfl (Nat.le_of_ble_eq_true rfl) hl.1 ⟨Nat.zero_le _, Nat.zero_le _⟩ dX7_skewsOf_81 (fun r_81 G_81 H locs hR hP hS => ?_)
              obtain ⟨rfl, hG_81⟩ := hR
              rw [hG_81] at hP
              clear hG_81
              refine kcS X hP hS (c_X7_areSkew l hI) v_X7_123 ⟨Nat.le_of_ble_eq_true rfl, Nat.le_of_ble_eq_true rfl, rfl, rfl⟩ rfl rfl (Nat.le_of_ble_eq_true rfl) hl.1 ⟨Nat.zero_le _, Nat.zero_le _⟩ dX7_skewsOf_84 (fun r_84 G_84 H locs hR hP hS => ?_)
              obtain ⟨rfl, hG_84⟩ := hR
              rw [hG_84] at hP
              clear hG_84
              first
                | refine kif_eq (tgt := 94) hx hb dX7_skewsOf_87 (by decide) (fun c_87 => ?_) (fun c_87 => ?_)
                | refine lv_if_eq (tgt := 94) hx hb dX7_skewsOf_87 (by decide) (fun c_87 => ?_) (fun c_87 => ?_)
              · skip
                refine lv_iconst (v := nI 0) hx hb dX7_skewsOf_94 (by decide) ?_
                first
                  | refine kadd hx hb dX7_skewsOf_95 (by with_reducible rfl) (by with_reducible rfl) ?_
                  | refine lv_iadd hx hb dX7_skewsOf_95 ?_
                refine kist hx hb dX7_skewsOf_96 rfl hl (by decide) (kp_5_2 rfl) (fun ls hl => ?_)
                first
                  | refine kinc (q := 3) hx hb dX7_skewsOf_97 hl rfl (by decide) (kp_5_3 rfl) (fun ls hl => ?_)
                  | refine kincG (q := 3) hx hb dX7_skewsOf_97 hl rfl (by decide) (kp_5_3 rfl) (fun ls hl => ?_)
                refine lv_goto (tgt := 4) hx hb dX7_skewsOf_100 (by decide) ?_
                exact ih_4 _ _ _ _ _ (by omega) (by omega) (cn_z iv_1 (if_neg (fun z => c_87 z.2))) hP hS (lv_sub hl [0,1,2,3] rfl)
              · skip
                refine lv_iconst (v := nI 1) hx hb dX7_skewsOf_90 (by decide) ?_
                refine lv_goto (tgt := 95) hx hb dX7_skewsOf_91 (by decide) ?_
                first
                  | refine kadd hx hb dX7_skewsOf_95 (by with_reducible rfl) (by with_reducible rfl) ?_
                  | refine lv_iadd hx hb dX7_skewsOf_95 ?_
                refine kist hx hb dX7_skewsOf_96 rfl hl (by decide) (kp_5_2 rfl) (fun ls hl => ?_)
                first
                  | refine kinc (q := 3) hx hb dX7_skewsOf_97 hl rfl (by decide) (kp_5_3 rfl) (fun ls hl => ?_)
                  | refine kincG (q := 3) hx hb dX7_skewsOf_97 hl rfl (by decide) (kp_5_3 rfl) (fun ls hl => ?_)
                refine lv_goto (tgt := 4) hx hb dX7_skewsOf_100 (by decide) ?_
                exact ih_4 _ _ _ _ _ (by omega) (by omega) (cn_p iv_1 (if_pos (And.intro (And.intro (Int32.not_le.mp c_27) (Int32.not_le.mp c_44)) c_87))) hP hS (lv_sub hl [0,1,2,3] rfl)
  exact lp_4 _ 0 0 _ _ _ (Nat.lt_succ_self _) (Nat.zero_le _) (rfl) hP hS (lv_sub hl [0,1,2,3] rfl)

set_option maxHeartbeats 4000000 in
set_option maxRecDepth 100000 in
theorem c_X7_skews (l : Launch) {D : va_G} {τ : Nat → ClassId} {ad : Nat → Nat} (hI : kInj ad) {G : Nat → Nat → Int32} {q : Nat} (hq : q < 40) : kM l yX7_skews cX7_skews 5 (some .int) { frames := 1, cells := 0, slots := 0, locals := 23 } D τ ad [.ref (ad 0), .int (nI q)] G (fun v G' => v = nI (cn (swM (G 1) q) q) ∧ G' = G) := by
  refine kMet (own := RX7) (by decide) rfl (Nat.le_of_ble_eq_true rfl) ?_
  intro p9 e9 s9 m9 args9 below9 meth9 c9 Q9 X hx hb hP hS hret ls hl
  have hPs := hP
  have hl : lv_has ls 5 [(0, .ref (ad 0)), (1, .int (nI q))] := hl
  refine lv_iconst (v := nI 0) hx hb dX7_skews_0 (by decide) ?_
  refine kist hx hb dX7_skews_1 rfl hl (by decide) (kp_2_2 rfl) (fun ls hl => ?_)
  refine lv_iconst (v := nI 0) hx hb dX7_skews_2 (by decide) ?_
  refine kist hx hb dX7_skews_3 rfl hl (by decide) (kp_3_3 rfl) (fun ls hl => ?_)
  have lp_4 : ∀ (d : Nat) (i x : Nat) (H : Heap) (locs : List Loc) (ls : Array Slot), (q - i) < d → (i ≤ q) → (x = cn (swM (G 1) q) i) → va_P D vwCl (kW τ ad G) H → va_S (kAd ad) s9.heap H locs → lv_has ls 5 [(0, .ref (ad 0)), (1, .int (nI q)), (2, .int (nI x)), (3, .int (nI i))] → W p9 l e9 { frames := 1, cells := 0, slots := 0, locals := 23 } s9 m9 args9 below9 meth9 c9 H locs 0 0 Q9 (F0 m9 4 ls []) := by
    intro d
    induction d with
    | zero => exact fun _ _ _ _ _ hd => absurd hd (Nat.not_lt_zero _)
    | succ d ih_4 =>
      intro i x H locs ls hd iv_0 iv_1 hP hS hl
      refine lv_iload_n hx hb dX7_skews_4 rfl (lv_at hl 3 rfl) ?_
      refine lv_iload_n hx hb dX7_skews_5 rfl (lv_at hl 1 rfl) ?_
      first
        | refine kic_ge (tgt := 95) hx hb dX7_skews_6 (by decide) (by with_reducible rfl) (by with_reducible rfl) (by omega) (by omega) (fun c_6 => ?_) (fun c_6 => ?_)
        | refine lv_icmp_ge (tgt := 95) hx hb dX7_skews_6 (by decide) (fun c_6 => ?_) (fun c_6 => ?_)
      · skip
        refine lv_iload_n hx hb dX7_skews_95 rfl (lv_at hl 2 rfl) ?_
        exact hret _ _ _ _ _ _ (⟨congrArg nI (iv_1.trans (by rw [show i = q by omega])), rfl⟩) hP hS dX7_skews_96
      · skip
        refine lv_aload_n hx hb dX7_skews_9 rfl (lv_at hl 0 rfl) ?_
        refine lv_iload_n hx hb dX7_skews_10 rfl (lv_at hl 1 rfl) ?_
        refine lv_iconst (v := nI 1) hx hb dX7_skews_11 (by decide) ?_
        refine kcV X hP hS (c_X7_ofC l hI (by first | assumption | omega)) oJ v_X7_120 ⟨Nat.le_of_ble_eq_true rfl, Nat.le_of_ble_eq_true rfl, rfl, rfl⟩ rfl rfl (Nat.le_of_ble_eq_true rfl) hl.1 ⟨Nat.zero_le _, Nat.zero_le _⟩ dX7_skews_12 (fun r_12 G_12 H locs hR hP hS => ?_)
        obtain ⟨rfl, hG_12⟩ := hR
        rw [hG_12] at hP
        clear hG_12
        refine lv_aload_n hx hb dX7_skews_15 rfl (lv_at hl 0 rfl) ?_
        refine lv_iload_n hx hb dX7_skews_16 rfl (lv_at hl 3 rfl) ?_
        refine lv_iconst (v := nI 2) hx hb dX7_skews_17 (by decide) ?_
        refine kcV X hP hS (c_X7_ofC l hI (by first | assumption | omega)) oJ v_X7_120 ⟨Nat.le_of_ble_eq_true rfl, Nat.le_of_ble_eq_true rfl, rfl, rfl⟩ rfl rfl (Nat.le_of_ble_eq_true rfl) hl.1 ⟨Nat.zero_le _, Nat.zero_le _⟩ dX7_skews_18 (fun r_18 G_18 H locs hR hP hS => ?_)
        obtain ⟨rfl, hG_18⟩ := hR
        rw [hG_18] at hP
        clear hG_18
        first
          | refine kic_ge (tgt := 43) hx hb dX7_skews_21 (by decide) (by with_reducible rfl) (by with_reducible rfl) (by omega) (by omega) (fun c_21 => ?_) (fun c_21 => ?_)
          | refine lv_icmp_ge (tgt := 43) hx hb dX7_skews_21 (by decide) (fun c_21 => ?_) (fun c_21 => ?_)
        · skip
          refine lv_iconst (v := nI 0) hx hb dX7_skews_43 (by decide) ?_
          refine kistW hx hb dX7_skews_44 hl (by decide) (kp_4_4 rfl) (fun ls hl => ?_)
          refine lv_iload_n hx hb dX7_skews_46 rfl (lv_at hl 2 rfl) ?_
          refine lv_iload hx hb dX7_skews_47 (lv_at hl 4 rfl) ?_
          first
            | refine kif_eq (tgt := 86) hx hb dX7_skews_49 (by decide) (fun c_49 => ?_) (fun c_49 => ?_)
            | refine lv_if_eq (tgt := 86) hx hb dX7_skews_49 (by decide) (fun c_49 => ?_) (fun c_49 => ?_)
          · skip
            refine lv_iconst (v := nI 0) hx hb dX7_skews_86 (by decide) ?_
            first
              | refine kadd hx hb dX7_skews_87 (by with_reducible rfl) (by with_reducible rfl) ?_
              | refine lv_iadd hx hb dX7_skews_87 ?_
            refine kist hx hb dX7_skews_88 rfl hl (by decide) (kp_5_2 rfl) (fun ls hl => ?_)
            first
              | refine kinc (q := 3) hx hb dX7_skews_89 hl rfl (by decide) (kp_5_3 rfl) (fun ls hl => ?_)
              | refine kincG (q := 3) hx hb dX7_skews_89 hl rfl (by decide) (kp_5_3 rfl) (fun ls hl => ?_)
            refine lv_goto (tgt := 4) hx hb dX7_skews_92 (by decide) ?_
            exact ih_4 _ _ _ _ _ (by omega) (by omega) (cn_z iv_1 (if_neg (fun z => Int32.not_le.mpr z.1.1 c_21))) hP hS (lv_sub hl [0,1,2,3] rfl)
          · skip
            exact absurd rfl c_49
        · skip
          refine lv_aload_n hx hb dX7_skews_24 rfl (lv_at hl 0 rfl) ?_
          refine lv_iload_n hx hb dX7_skews_25 rfl (lv_at hl 3 rfl) ?_
          refine lv_iconst (v := nI 1) hx hb dX7_skews_26 (by decide) ?_
          refine kcV X hP hS (c_X7_ofC l hI (by first | assumption | omega)) oJ v_X7_120 ⟨Nat.le_of_ble_eq_true rfl, Nat.le_of_ble_eq_true rfl, rfl, rfl⟩ rfl rfl (Nat.le_of_ble_eq_true rfl) hl.1 ⟨Nat.zero_le _, Nat.zero_le _⟩ dX7_skews_27 (fun r_27 G_27 H locs hR hP hS => ?_)
          obtain ⟨rfl, hG_27⟩ := hR
          rw [hG_27] at hP
          clear hG_27
          refine lv_aload_n hx hb dX7_skews_30 rfl (lv_at hl 0 rfl) ?_
          refine lv_iload_n hx hb dX7_skews_31 rfl (lv_at hl 1 rfl) ?_
          refine lv_iconst (v := nI 2) hx hb dX7_skews_32 (by decide) ?_
          refine kcV X hP hS (c_X7_ofC l hI (by first | assumption | omega)) oJ v_X7_120 ⟨Nat.le_of_ble_eq_true rfl, Nat.le_of_ble_eq_true rfl, rfl, rfl⟩ rfl rfl (Nat.le_of_ble_eq_true rfl) hl.1 ⟨Nat.zero_le _, Nat.zero_le _⟩ dX7_skews_33 (fun r_33 G_33 H locs hR hP hS => ?_)
          obtain ⟨rfl, hG_33⟩ := hR
          rw [hG_33] at hP
          clear hG_33
          first
            | refine kic_ge (tgt := 43) hx hb dX7_skews_36 (by decide) (by with_reducible rfl) (by with_reducible rfl) (by omega) (by omega) (fun c_36 => ?_) (fun c_36 => ?_)
            | refine lv_icmp_ge (tgt := 43) hx hb dX7_skews_36 (by decide) (fun c_36 => ?_) (fun c_36 => ?_)
          · skip
            refine lv_iconst (v := nI 0) hx hb dX7_skews_43 (by decide) ?_
            refine kistW hx hb dX7_skews_44 hl (by decide) (kp_4_4 rfl) (fun ls hl => ?_)
            refine lv_iload_n hx hb dX7_skews_46 rfl (lv_at hl 2 rfl) ?_
            refine lv_iload hx hb dX7_skews_47 (lv_at hl 4 rfl) ?_
            first
              | refine kif_eq (tgt := 86) hx hb dX7_skews_49 (by decide) (fun c_49 => ?_) (fun c_49 => ?_)
              | refine lv_if_eq (tgt := 86) hx hb dX7_skews_49 (by decide) (fun c_49 => ?_) (fun c_49 => ?_)
            · skip
              refine lv_iconst (v := nI 0) hx hb dX7_skews_86 (by decide) ?_
              first
                | refine kadd hx hb dX7_skews_87 (by with_reducible rfl) (by with_reducible rfl) ?_
                | refine lv_iadd hx hb dX7_skews_87 ?_
              refine kist hx hb dX7_skews_88 rfl hl (by decide) (kp_5_2 rfl) (fun ls hl => ?_)
              first
                | refine kinc (q := 3) hx hb dX7_skews_89 hl rfl (by decide) (kp_5_3 rfl) (fun ls hl => ?_)
                | refine kincG (q := 3) hx hb dX7_skews_89 hl rfl (by decide) (kp_5_3 rfl) (fun ls hl => ?_)
              refine lv_goto (tgt := 4) hx hb dX7_skews_92 (by decide) ?_
              exact ih_4 _ _ _ _ _ (by omega) (by omega) (cn_z iv_1 (if_neg (fun z => Int32.not_le.mpr z.1.2 c_36))) hP hS (lv_sub hl [0,1,2,3] rfl)
            · skip
              exact absurd rfl c_49
          · skip
            refine lv_iconst (v := nI 1) hx hb dX7_skews_39 (by decide) ?_
            refine lv_goto (tgt := 44) hx hb dX7_skews_40 (by decide) ?_
            refine kistW hx hb dX7_skews_44 hl (by decide) (kp_4_4 rfl) (fun ls hl => ?_)
            refine lv_iload_n hx hb dX7_skews_46 rfl (lv_at hl 2 rfl) ?_
            refine lv_iload hx hb dX7_skews_47 (lv_at hl 4 rfl) ?_
            first
              | refine kif_eq (tgt := 86) hx hb dX7_skews_49 (by decide) (fun c_49 => ?_) (fun c_49 => ?_)
              | refine lv_if_eq (tgt := 86) hx hb dX7_skews_49 (by decide) (fun c_49 => ?_) (fun c_49 => ?_)
            · skip
              exact absurd c_49 (by decide)
            · skip
              refine lv_aload_n hx hb dX7_skews_52 rfl (lv_at hl 0 rfl) ?_
              refine lv_iload_n hx hb dX7_skews_53 rfl (lv_at hl 1 rfl) ?_
              refine lv_iconst (v := nI 3) hx hb dX7_skews_54 (by decide) ?_
              refine kcV X hP hS (c_X7_ofC l hI (by first | assumption | omega)) oJ v_X7_120 ⟨Nat.le_of_ble_eq_true rfl, Nat.le_of_ble_eq_true rfl, rfl, rfl⟩ rfl rfl (Nat.le_of_ble_eq_true rfl) hl.1 ⟨Nat.zero_le _, Nat.zero_le _⟩ dX7_skews_55 (fun r_55 G_55 H locs hR hP hS => ?_)
              obtain ⟨rfl, hG_55⟩ := hR
              rw [hG_55] at hP
              clear hG_55
              refine lv_aload_n hx hb dX7_skews_58 rfl (lv_at hl 0 rfl) ?_
              refine lv_iload_n hx hb dX7_skews_59 rfl (lv_at hl 1 rfl) ?_
              refine lv_iconst (v := nI 4) hx hb dX7_skews_60 (by decide) ?_
              refine kcV X hP hS (c_X7_ofC l hI (by first | assumption | omega)) oJ v_X7_120 ⟨Nat.le_of_ble_eq_true rfl, Nat.le_of_ble_eq_true rfl, rfl, rfl⟩ rfl rfl (Nat.le_of_ble_eq_true rfl) hl.1 ⟨Nat.zero_le _, Nat.zero_le _⟩ dX7_skews_61 (fun r_61 G_61 H locs hR hP hS => ?_)
              obtain ⟨rfl, hG_61⟩ := hR
              rw [hG_61] at hP
              clear hG_61
              refine lv_aload_n hx hb dX7_skews_64 rfl (lv_at hl 0 rfl) ?_
              refine lv_iload_n hx hb dX7_skews_65 rfl (lv_at hl 3 rfl) ?_
              refine lv_iconst (v := nI 3) hx hb dX7_skews_66 (by decide) ?_
              refine kcV X hP hS (c_X7_ofC l hI (by first | assumption | omega)) oJ v_X7_120 ⟨Nat.le_of_ble_eq_true rfl, Nat.le_of_ble_eq_true rfl, rfl, rfl⟩ rfl rfl (Nat.le_of_ble_eq_true rfl) hl.1 ⟨Nat.zero_le _, Nat.zero_le _⟩ dX7_skews_67 (fun r_67 G_67 H locs hR hP hS => ?_)
              obtain ⟨rfl, hG_67⟩ := hR
              rw [hG_67] at hP
              clear hG_67
              refine lv_aload_n hx hb dX7_skews_70 rfl (lv_at hl 0 rfl) ?_
              refine lv_iload_n hx hb dX7_skews_71 rfl (lv_at hl 3 rfl) ?_
              refine lv_iconst (v := nI 4) hx hb dX7_skews_72 (by decide) ?_
              refine kcV X hP hS (c_X7_ofC l hI (by first | assumption | omega)) oJ v_X7_120 ⟨Nat.le_of_ble_eq_true rfl, Nat.le_of_ble_eq_true rfl, rfl, rfl⟩ rfl rfl (Nat.le_of_ble_eq_true rfl) hl.1 ⟨Nat.zero_le _, Nat.zero_le _⟩ dX7_skews_73 (fun r_73 G_73 H locs hR hP hS => ?_)
              obtain ⟨rfl, hG_73⟩ := hR
              rw [hG_73] at hP
              clear hG_73
              refine kcS X hP hS (c_X7_areSkew l hI) v_X7_123 ⟨Nat.le_of_ble_eq_true rfl, Nat.le_of_ble_eq_true rfl, rfl, rfl⟩ rfl rfl (Nat.le_of_ble_eq_true rfl) hl.1 ⟨Nat.zero_le _, Nat.zero_le _⟩ dX7_skews_76 (fun r_76 G_76 H locs hR hP hS => ?_)
              obtain ⟨rfl, hG_76⟩ := hR
              rw [hG_76] at hP
              clear hG_76
              first
                | refine kif_eq (tgt := 86) hx hb dX7_skews_79 (by decide) (fun c_79 => ?_) (fun c_79 => ?_)
                | refine lv_if_eq (tgt := 86) hx hb dX7_skews_79 (by decide) (fun c_79 => ?_) (fun c_79 => ?_)
              · skip
                refine lv_iconst (v := nI 0) hx hb dX7_skews_86 (by decide) ?_
                first
                  | refine kadd hx hb dX7_skews_87 (by with_reducible rfl) (by with_reducible rfl) ?_
                  | refine lv_iadd hx hb dX7_skews_87 ?_
                refine kist hx hb dX7_skews_88 rfl hl (by decide) (kp_5_2 rfl) (fun ls hl => ?_)
                first
                  | refine kinc (q := 3) hx hb dX7_skews_89 hl rfl (by decide) (kp_5_3 rfl) (fun ls hl => ?_)
                  | refine kincG (q := 3) hx hb dX7_skews_89 hl rfl (by decide) (kp_5_3 rfl) (fun ls hl => ?_)
                refine lv_goto (tgt := 4) hx hb dX7_skews_92 (by decide) ?_
                exact ih_4 _ _ _ _ _ (by omega) (by omega) (cn_z iv_1 (if_neg (fun z => c_79 z.2))) hP hS (lv_sub hl [0,1,2,3] rfl)
              · skip
                refine lv_iconst (v := nI 1) hx hb dX7_skews_82 (by decide) ?_
                refine lv_goto (tgt := 87) hx hb dX7_skews_83 (by decide) ?_
                first
                  | refine kadd hx hb dX7_skews_87 (by with_reducible rfl) (by with_reducible rfl) ?_
                  | refine lv_iadd hx hb dX7_skews_87 ?_
                refine kist hx hb dX7_skews_88 rfl hl (by decide) (kp_5_2 rfl) (fun ls hl => ?_)
                first
                  | refine kinc (q := 3) hx hb dX7_skews_89 hl rfl (by decide) (kp_5_3 rfl) (fun ls hl => ?_)
                  | refine kincG (q := 3) hx hb dX7_skews_89 hl rfl (by decide) (kp_5_3 rfl) (fun ls hl => ?_)
                refine lv_goto (tgt := 4) hx hb dX7_skews_92 (by decide) ?_
                exact ih_4 _ _ _ _ _ (by omega) (by omega) (cn_p iv_1 (if_pos (And.intro (And.intro (Int32.not_le.mp c_21) (Int32.not_le.mp c_36)) c_79))) hP hS (lv_sub hl [0,1,2,3] rfl)
  exact lp_4 _ 0 0 _ _ _ (Nat.lt_succ_self _) (Nat.zero_le _) (rfl) hP hS (lv_sub hl [0,1,2,3] rfl)

set_option maxHeartbeats 4000000 in
set_option maxRecDepth 100000 in
theorem c_X7_pairs (l : Launch) {D : va_G} {τ : Nat → ClassId} {ad : Nat → Nat} (hI : kInj ad) {G : Nat → Nat → Int32} {k : Nat} (hk : G 1 6 = nI k) (hk4 : k ≤ 40) : kM l yX7_pairs cX7_pairs 3 (some .int) { frames := 2, cells := 0, slots := 0, locals := 47 } D τ ad [.ref (ad 0)] G (fun v G' => v = nI (cn (fun q => cn (swM (G 1) q) q) k) ∧ G' = G) := by
  refine kMet (own := RX7) (by decide) rfl (Nat.le_of_ble_eq_true rfl) ?_
  intro p9 e9 s9 m9 args9 below9 meth9 c9 Q9 X hx hb hP hS hret ls hl
  have hPs := hP
  have hl : lv_has ls 3 [(0, .ref (ad 0))] := hl
  refine lv_iconst (v := nI 0) hx hb dX7_pairs_0 (by decide) ?_
  refine kist hx hb dX7_pairs_1 rfl hl (by decide) (kp_1_1 rfl) (fun ls hl => ?_)
  refine lv_iconst (v := nI 0) hx hb dX7_pairs_2 (by decide) ?_
  refine kist hx hb dX7_pairs_3 rfl hl (by decide) (kp_2_2 rfl) (fun ls hl => ?_)
  have lp_4 : ∀ (d : Nat) (i x : Nat) (H : Heap) (locs : List Loc) (ls : Array Slot), (k - i) < d → (i ≤ k) → (x = cn (fun q => cn (swM (G 1) q) q) i) → va_P D vwCl (kW τ ad G) H → va_S (kAd ad) s9.heap H locs → lv_has ls 3 [(0, .ref (ad 0)), (1, .int (nI x)), (2, .int (nI i))] → W p9 l e9 { frames := 2, cells := 0, slots := 0, locals := 47 } s9 m9 args9 below9 meth9 c9 H locs 0 0 Q9 (F0 m9 4 ls []) := by
    intro d
    induction d with
    | zero => exact fun _ _ _ _ _ hd => absurd hd (Nat.not_lt_zero _)
    | succ d ih_4 =>
      intro i x H locs ls hd iv_0 iv_1 hP hS hl
      refine lv_iload_n hx hb dX7_pairs_4 rfl (lv_at hl 2 rfl) ?_
      refine lv_aload_n hx hb dX7_pairs_5 rfl (lv_at hl 0 rfl) ?_
      refine kget X hP oJ g_X7_7 rfl dX7_pairs_6 ?_
      refine lv_bipush (v := nI 6) hx hb dX7_pairs_9 (by decide) ?_
      refine kiald X hP aJ1 (by omega) dX7_pairs_11 ?_
      rw [hk]
      first
        | refine kic_ge (tgt := 29) hx hb dX7_pairs_12 (by decide) (by with_reducible rfl) (by with_reducible rfl) (by omega) (by omega) (fun c_12 => ?_) (fun c_12 => ?_)
        | refine lv_icmp_ge (tgt := 29) hx hb dX7_pairs_12 (by decide) (fun c_12 => ?_) (fun c_12 => ?_)
      · skip
        refine lv_iload_n hx hb dX7_pairs_29 rfl (lv_at hl 1 rfl) ?_
        exact hret _ _ _ _ _ _ (⟨congrArg nI (iv_1.trans (by rw [show i = k by omega])), rfl⟩) hP hS dX7_pairs_30
      · skip
        refine lv_iload_n hx hb dX7_pairs_15 rfl (lv_at hl 1 rfl) ?_
        refine lv_aload_n hx hb dX7_pairs_16 rfl (lv_at hl 0 rfl) ?_
        refine lv_iload_n hx hb dX7_pairs_17 rfl (lv_at hl 2 rfl) ?_
        refine kcV X hP hS (c_X7_skews l hI (by first | assumption | omega)) oJ v_X7_127 ⟨Nat.le_of_ble_eq_true rfl, Nat.le_of_ble_eq_true rfl, rfl, rfl⟩ rfl rfl (Nat.le_of_ble_eq_true rfl) hl.1 ⟨Nat.zero_le _, Nat.zero_le _⟩ dX7_pairs_18 (fun r_18 G_18 H locs hR hP hS => ?_)
        obtain ⟨rfl, hG_18⟩ := hR
        rw [hG_18] at hP
        clear hG_18
        first
          | refine kadd hx hb dX7_pairs_21 (by with_reducible rfl) (by with_reducible rfl) ?_
          | refine lv_iadd hx hb dX7_pairs_21 ?_
        refine kist hx hb dX7_pairs_22 rfl hl (by decide) (kp_3_1 rfl) (fun ls hl => ?_)
        first
          | refine kinc (q := 2) hx hb dX7_pairs_23 hl rfl (by decide) (kp_3_2 rfl) (fun ls hl => ?_)
          | refine kincG (q := 2) hx hb dX7_pairs_23 hl rfl (by decide) (kp_3_2 rfl) (fun ls hl => ?_)
        refine lv_goto (tgt := 4) hx hb dX7_pairs_26 (by decide) ?_
        exact ih_4 _ _ _ _ _ (by omega) (by omega) (by rw [iv_1]; rfl) hP hS (lv_sub hl [0,1,2] rfl)
  exact lp_4 _ 0 0 _ _ _ (Nat.lt_succ_self _) (Nat.zero_le _) (rfl) hP hS (lv_sub hl [0,1,2] rfl)
