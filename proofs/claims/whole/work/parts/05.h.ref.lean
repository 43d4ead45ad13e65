
/-- an argument that is one of n numbers, or none -/
def rdP (n : Nat) (x : Int32) (miss : Prop) (hit : Nat → Prop) : Prop := (∀ r, r < n → x = nI r → hit r) ∧ ((∀ r, r < n → ¬ x = nI r) → miss)
theorem rdP_m {n : Nat} {x : Int32} {miss : Prop} {hit : Nat → Prop} (h : ∀ r, r < n → ¬ x = nI r) (m : miss) : rdP n x miss hit := ⟨fun r hr e => absurd e (h r hr), fun _ => m⟩
theorem rdP_h {n r : Nat} {miss : Prop} {hit : Nat → Prop} (hr : r < n) (hn : n ≤ 40) (m : hit r) : rdP n (nI r) miss hit := ⟨fun q hq e => by
  rw [show q = r from ((nI_eq (by omega) (by omega)).mp e).symm]; exact m, fun h => absurd rfl (h r hr)⟩
theorem isR_yes {n : Nat} {x : Int32} (hn : n ≤ 40) (h : nI 0 ≤ x ∧ x ≤ nI n - nI 1) : ∃ r, r < n ∧ x = nI r := by
  obtain ⟨h1, h2⟩ := h
  rcases Nat.eq_zero_or_pos n with rfl | hp
  · exact absurd (Int32.le_trans h1 h2) (by decide)
  · rw [pk_sub hp] at h2
    obtain ⟨q, q1, q2⟩ := nI_of2 (x := x) (M := nI (n - 1)) (n := n - 1) (nI_toInt (by omega)) (Int32.not_lt.mpr h1) h2
    exact ⟨q, by omega, q2⟩
theorem isR_no {n : Nat} {x : Int32} (hn : n ≤ 40) (h : ¬ (nI 0 ≤ x ∧ x ≤ nI n - nI 1)) : ∀ r, r < n → ¬ x = nI r := by
  intro r hr e
  apply h
  rw [e, pk_sub (by omega)]
  exact ⟨nI_le (by omega) (by omega), nI_le (by omega) (by omega)⟩
theorem isC_yes {x : Int32} (h : nI 0 ≤ x ∧ x ≤ nI 11) : ∃ c, c < 12 ∧ x = nI c := isR_yes (n := 12) (by omega) (by rw [pk_sub (by omega)]; exact h)
theorem isC_no {x : Int32} (h : ¬ (nI 0 ≤ x ∧ x ≤ nI 11)) : ∀ c, c < 12 → ¬ x = nI c := isR_no (n := 12) (by omega) (by rw [pk_sub (by omega)]; exact h)
theorem recM_o {G : Nat → Nat → Int32} {L k : Nat} (h0 : k ≠ 0) (h2 : k ≠ 2) : recM G L k = G k := by
  unfold recM
  rw [gs_other h0]
  funext f
  unfold kpF
  rw [if_neg (by omega)]
  by_cases h : L = 4
  · rw [if_pos h, gs_other h0]
    unfold shF2
    rw [if_neg (by omega)]
  · rw [if_neg h]
theorem recM_1 {G : Nat → Nat → Int32} {L : Nat} : recM G L 1 = G 1 := recM_o (by omega) (by omega)
set_option maxHeartbeats 4000000 in
set_option maxRecDepth 100000 in
theorem c_X7_undo (l : Launch) {D : va_G} {τ : Nat → ClassId} {ad : Nat → Nat} (hI : kInj ad) {G : Nat → Nat → Int32} {L : Nat} (hL : G 0 2 = nI L) (hL4 : L ≤ 4) : kM l yX7_undo cX7_undo 1 (some .int) { frames := 1, cells := 0, slots := 0, locals := 22 } D τ ad [.ref (ad 0)] G (fun v G' => if L = 0 then v = -5 ∧ G' = G else v = nI (L - 1) ∧ G' = brF (gs G 0 2 (nI (L - 1))) (L - 1) 1201) := by
  refine kMet (own := RX7) (by decide) rfl (Nat.le_of_ble_eq_true rfl) ?_
  intro p9 e9 s9 m9 args9 below9 meth9 c9 Q9 X hx hb hP hS hret ls hl
  have hPs := hP
  have hl : lv_has ls 1 [(0, .ref (ad 0))] := hl
  refine lv_aload_n hx hb dX7_undo_0 rfl (lv_at hl 0 rfl) ?_
  refine kget X hP oJ g_X7_36 (congrArg (fun z => some (Value.int z)) hL) dX7_undo_1 ?_
  first
    | refine kif_ne (tgt := 10) hx hb dX7_undo_4 (by decide) (fun c_4 => ?_) (fun c_4 => ?_)
    | refine lv_if_ne (tgt := 10) hx hb dX7_undo_4 (by decide) (fun c_4 => ?_) (fun c_4 => ?_)
  · skip
    have h0 : ¬ L = 0 := fun q => c_4 (by rw [q]; rfl)
    refine lv_aload_n hx hb dX7_undo_10 rfl (lv_at hl 0 rfl) ?_
    refine lv_dup hx hb dX7_undo_11 rfl ?_
    refine kget X hP oJ g_X7_36 (congrArg (fun z => some (Value.int z)) hL) dX7_undo_12 ?_
    refine lv_iconst (v := nI 1) hx hb dX7_undo_15 (by decide) ?_
    first
      | refine ksub hx hb dX7_undo_16 (by with_reducible rfl) (by with_reducible rfl) (by omega) ?_
      | refine lv_isub hx hb dX7_undo_16 ?_
    refine kput X hI hP hS oJ g_X7_36 (fun _ => rfl) rfl (fun _ => Nat.le_of_ble_eq_true rfl) rfl rfl dX7_undo_17 (fun H locs hP hS => ?_)
    refine lv_aload_n hx hb dX7_undo_20 rfl (lv_at hl 0 rfl) ?_
    refine lv_aload_n hx hb dX7_undo_21 rfl (lv_at hl 0 rfl) ?_
    refine kget X hP oJ g_X7_36 (congrArg (fun z => some (Value.int z)) (by simp [gs] : _ = nI (L - 1))) dX7_undo_22 ?_
    refine kcVv X hP hS (c_X7_brings l hI (by omega)) oJ v_X7_44 ⟨Nat.le_of_ble_eq_true rfl, Nat.le_of_ble_eq_true rfl, rfl, rfl⟩ rfl rfl (Nat.le_of_ble_eq_true rfl) hl.1 ⟨Nat.zero_le _, Nat.zero_le _⟩ dX7_undo_25 (fun G_25 H locs hR hP hS => ?_)
    subst hR
    refine lv_aload_n hx hb dX7_undo_28 rfl (lv_at hl 0 rfl) ?_
    refine kget X hP oJ g_X7_36 (congrArg (fun z => some (Value.int z)) (show brF (gs G 0 2 (nI (L - 1))) (L - 1) 1201 0 2 = nI (L - 1) from by unfold brF; rw [if_neg (by omega)]; simp [gs])) dX7_undo_29 ?_
    exact hret _ _ _ _ _ _ (by rw [if_neg h0]; exact ⟨rfl, rfl⟩) hP hS dX7_undo_32
  · skip
    have h0 : L = 0 := by
      rcases Nat.eq_zero_or_pos L with q | q
      · exact q
      · exact absurd c_4 (nI_ne0 q (by omega))
    refine lv_bipush (v := (-5)) hx hb dX7_undo_7 (by decide) ?_
    exact hret _ _ _ _ _ _ (by rw [if_pos h0]; exact ⟨rfl, rfl⟩) hP hS dX7_undo_9

set_option maxHeartbeats 4000000 in
set_option maxRecDepth 100000 in
theorem c_X7_keep (l : Launch) {D : va_G} {τ : Nat → ClassId} {ad : Nat → Nat} (hI : kInj ad) {G : Nat → Nat → Int32}  : kM l yX7_keep cX7_keep 1 (some .int) { frames := 1, cells := 0, slots := 0, locals := 22 } D τ ad [.ref (ad 0)] G (fun v G' => v = G 1 0 ∧ G' = gs (kpF G 4 1201) 0 3 (nI 1)) := by
  refine kMet (own := RX7) (by decide) rfl (Nat.le_of_ble_eq_true rfl) ?_
  intro p9 e9 s9 m9 args9 below9 meth9 c9 Q9 X hx hb hP hS hret ls hl
  have hPs := hP
  have hl : lv_has ls 1 [(0, .ref (ad 0))] := hl
  refine lv_aload_n hx hb dX7_keep_0 rfl (lv_at hl 0 rfl) ?_
  refine lv_iconst (v := nI 4) hx hb dX7_keep_1 (by decide) ?_
  refine kcVv X hP hS (c_X7_keeps l hI (by omega)) oJ v_X7_40 ⟨Nat.le_of_ble_eq_true rfl, Nat.le_of_ble_eq_true rfl, rfl, rfl⟩ rfl rfl (Nat.le_of_ble_eq_true rfl) hl.1 ⟨Nat.zero_le _, Nat.zero_le _⟩ dX7_keep_2 (fun G_2 H locs hR hP hS => ?_)
  subst hR
  refine lv_aload_n hx hb dX7_keep_5 rfl (lv_at hl 0 rfl) ?_
  refine lv_iconst (v := nI 1) hx hb dX7_keep_6 (by decide) ?_
  refine kput X hI hP hS oJ g_X7_47 (fun _ => rfl) rfl (fun _ => Nat.le_of_ble_eq_true rfl) rfl rfl dX7_keep_7 (fun H locs hP hS => ?_)
  refine lv_aload_n hx hb dX7_keep_10 rfl (lv_at hl 0 rfl) ?_
  refine kget X hP oJ g_X7_7 rfl dX7_keep_11 ?_
  refine lv_iconst (v := nI 0) hx hb dX7_keep_14 (by decide) ?_
  refine kiald X hP aJ1 (by omega) dX7_keep_15 ?_
  exact hret _ _ _ _ _ _ (⟨by rw [gs_other (by omega)]; unfold kpF; rw [if_neg (by omega)], rfl⟩) hP hS dX7_keep_16

set_option maxHeartbeats 4000000 in
set_option maxRecDepth 100000 in
theorem c_X7_restore (l : Launch) {D : va_G} {τ : Nat → ClassId} {ad : Nat → Nat} (hI : kInj ad) {G : Nat → Nat → Int32} {L : Nat} (hL : G 0 2 = nI L) (hL4 : L ≤ 4) : kM l yX7_restore cX7_restore 1 (some .int) { frames := 2, cells := 0, slots := 0, locals := 43 } D τ ad [.ref (ad 0)] G (fun v G' => if G 0 3 = 0 then v = -5 ∧ G' = G else v = brF (recM G L) 4 1201 1 0 ∧ G' = brF (recM G L) 4 1201) := by
  refine kMet (own := RX7) (by decide) rfl (Nat.le_of_ble_eq_true rfl) ?_
  intro p9 e9 s9 m9 args9 below9 meth9 c9 Q9 X hx hb hP hS hret ls hl
  have hPs := hP
  have hl : lv_has ls 1 [(0, .ref (ad 0))] := hl
  refine lv_aload_n hx hb dX7_restore_0 rfl (lv_at hl 0 rfl) ?_
  refine kget X hP oJ g_X7_47 rfl dX7_restore_1 ?_
  first
    | refine kif_ne (tgt := 10) hx hb dX7_restore_4 (by decide) (fun c_4 => ?_) (fun c_4 => ?_)
    | refine lv_if_ne (tgt := 10) hx hb dX7_restore_4 (by decide) (fun c_4 => ?_) (fun c_4 => ?_)
  · skip
    refine lv_aload_n hx hb dX7_restore_10 rfl (lv_at hl 0 rfl) ?_
    refine kcVv X hP hS (c_X7_records l hI hL hL4) oJ v_X7_51 ⟨Nat.le_of_ble_eq_true rfl, Nat.le_of_ble_eq_true rfl, rfl, rfl⟩ rfl rfl (Nat.le_of_ble_eq_true rfl) hl.1 ⟨Nat.zero_le _, Nat.zero_le _⟩ dX7_restore_11 (fun G_11 H locs hR hP hS => ?_)
    subst hR
    refine lv_aload_n hx hb dX7_restore_14 rfl (lv_at hl 0 rfl) ?_
    refine lv_iconst (v := nI 4) hx hb dX7_restore_15 (by decide) ?_
    refine kcVv X hP hS (c_X7_brings l hI (by omega)) oJ v_X7_44 ⟨Nat.le_of_ble_eq_true rfl, Nat.le_of_ble_eq_true rfl, rfl, rfl⟩ rfl rfl (Nat.le_of_ble_eq_true rfl) hl.1 ⟨Nat.zero_le _, Nat.zero_le _⟩ dX7_restore_16 (fun G_16 H locs hR hP hS => ?_)
    subst hR
    refine lv_aload_n hx hb dX7_restore_19 rfl (lv_at hl 0 rfl) ?_
    refine kget X hP oJ g_X7_7 rfl dX7_restore_20 ?_
    refine lv_iconst (v := nI 0) hx hb dX7_restore_23 (by decide) ?_
    refine kiald X hP aJ1 (by omega) dX7_restore_24 ?_
    exact hret _ _ _ _ _ _ (by rw [if_neg c_4]; exact ⟨rfl, rfl⟩) hP hS dX7_restore_25
  · skip
    refine lv_bipush (v := (-5)) hx hb dX7_restore_7 (by decide) ?_
    exact hret _ _ _ _ _ _ (by rw [if_pos c_4]; exact ⟨rfl, rfl⟩) hP hS dX7_restore_9

set_option maxHeartbeats 4000000 in
set_option maxRecDepth 100000 in
theorem c_X7_pay (l : Launch) {D : va_G} {τ : Nat → ClassId} {ad : Nat → Nat} (hI : kInj ad) {G : Nat → Nat → Int32} {n L : Nat} {x y : Int32} (hn : G 1 2 = nI n) (hn4 : n ≤ 40) (hL : G 0 2 = nI L) (hL4 : L ≤ 4) : kM l yX7_pay cX7_pay 4 (some .int) { frames := 2, cells := 0, slots := 0, locals := 43 } D τ ad [.ref (ad 0), .int x, .int y] G (fun v G' => rdP n x (v = -1 ∧ G' = G) (fun r => if nI 1 ≤ y ∧ y ≤ nI 9999 then (if G 1 (9 + 20 * r + 2) = 0 then (if nI 9999 < G 1 (9 + 20 * r + 1) + y then v = -3 ∧ G' = G else v = G 1 (9 + 20 * r + 1) + y ∧ G' = gs (recM G L) 1 (9 + 20 * r + 1) (G 1 (9 + 20 * r + 1) + y)) else v = -4 ∧ G' = G) else v = -2 ∧ G' = G)) := by
  refine kMet (own := RX7) (by decide) rfl (Nat.le_of_ble_eq_true rfl) ?_
  intro p9 e9 s9 m9 args9 below9 meth9 c9 Q9 X hx hb hP hS hret ls hl
  have hPs := hP
  have hl : lv_has ls 4 [(0, .ref (ad 0)), (1, .int x), (2, .int y)] := hl
  refine lv_aload_n hx hb dX7_pay_0 rfl (lv_at hl 0 rfl) ?_
  refine lv_iload_n hx hb dX7_pay_1 rfl (lv_at hl 1 rfl) ?_
  refine kcV X hP hS (c_X7_isReader l hI) oJ v_X7_92 ⟨Nat.le_of_ble_eq_true rfl, Nat.le_of_ble_eq_true rfl, rfl, rfl⟩ rfl rfl (Nat.le_of_ble_eq_true rfl) hl.1 ⟨Nat.zero_le _, Nat.zero_le _⟩ dX7_pay_2 (fun r_2 G_2 H locs hR hP hS => ?_)
  obtain ⟨rfl, hG_2⟩ := hR
  rw [hG_2] at hP
  clear hG_2
  first
    | refine kif_ne (tgt := 10) hx hb dX7_pay_5 (by decide) (fun c_5 => ?_) (fun c_5 => ?_)
    | refine lv_if_ne (tgt := 10) hx hb dX7_pay_5 (by decide) (fun c_5 => ?_) (fun c_5 => ?_)
  · skip
    obtain ⟨r, hr, rfl⟩ := isR_yes hn4 (by rw [hn] at c_5; exact c_5)
    refine lv_iload_n hx hb dX7_pay_10 rfl (lv_at hl 2 rfl) ?_
    refine lv_iconst (v := nI 1) hx hb dX7_pay_11 (by decide) ?_
    refine lv_sipush (v := nI 9999) hx hb dX7_pay_12 (by decide) ?_
    refine kcS X hP hS (c_X7_isIn l hI) v_X7_28 ⟨Nat.le_of_ble_eq_true rfl, Nat.le_of_ble_eq_true rfl, rfl, rfl⟩ rfl rfl (Nat.le_of_ble_eq_true rfl) hl.1 ⟨Nat.zero_le _, Nat.zero_le _⟩ dX7_pay_15 (fun r_15 G_15 H locs hR hP hS => ?_)
    obtain ⟨rfl, hG_15⟩ := hR
    rw [hG_15] at hP
    clear hG_15
    first
      | refine kif_ne (tgt := 24) hx hb dX7_pay_18 (by decide) (fun c_18 => ?_) (fun c_18 => ?_)
      | refine lv_if_ne (tgt := 24) hx hb dX7_pay_18 (by decide) (fun c_18 => ?_) (fun c_18 => ?_)
    · skip
      refine lv_aload_n hx hb dX7_pay_24 rfl (lv_at hl 0 rfl) ?_
      refine lv_iload_n hx hb dX7_pay_25 rfl (lv_at hl 1 rfl) ?_
      refine kcV X hP hS (c_X7_isOpen l hI (by first | assumption | omega)) oJ v_X7_64 ⟨Nat.le_of_ble_eq_true rfl, Nat.le_of_ble_eq_true rfl, rfl, rfl⟩ rfl rfl (Nat.le_of_ble_eq_true rfl) hl.1 ⟨Nat.zero_le _, Nat.zero_le _⟩ dX7_pay_26 (fun r_26 G_26 H locs hR hP hS => ?_)
      obtain ⟨rfl, hG_26⟩ := hR
      rw [hG_26] at hP
      clear hG_26
      first
        | refine kif_ne (tgt := 35) hx hb dX7_pay_29 (by decide) (fun c_29 => ?_) (fun c_29 => ?_)
        | refine lv_if_ne (tgt := 35) hx hb dX7_pay_29 (by decide) (fun c_29 => ?_) (fun c_29 => ?_)
      · skip
        refine lv_aload_n hx hb dX7_pay_35 rfl (lv_at hl 0 rfl) ?_
        refine lv_iload_n hx hb dX7_pay_36 rfl (lv_at hl 1 rfl) ?_
        refine lv_iconst (v := nI 1) hx hb dX7_pay_37 (by decide) ?_
        refine kcV X hP hS (c_X7_ofR l hI (by first | assumption | omega)) oJ v_X7_32 ⟨Nat.le_of_ble_eq_true rfl, Nat.le_of_ble_eq_true rfl, rfl, rfl⟩ rfl rfl (Nat.le_of_ble_eq_true rfl) hl.1 ⟨Nat.zero_le _, Nat.zero_le _⟩ dX7_pay_38 (fun r_38 G_38 H locs hR hP hS => ?_)
        obtain ⟨rfl, hG_38⟩ := hR
        rw [hG_38] at hP
        clear hG_38
        refine lv_iload_n hx hb dX7_pay_41 rfl (lv_at hl 2 rfl) ?_
        refine lv_iadd hx hb dX7_pay_42 ?_
        refine kist hx hb dX7_pay_43 rfl hl (by decide) (kp_3_3 rfl) (fun ls hl => ?_)
        refine lv_iload_n hx hb dX7_pay_44 rfl (lv_at hl 3 rfl) ?_
        refine lv_sipush (v := nI 9999) hx hb dX7_pay_45 (by decide) ?_
        first
          | refine kic_le (tgt := 54) hx hb dX7_pay_48 (by decide) (by with_reducible rfl) (by with_reducible rfl) (by omega) (by omega) (fun c_48 => ?_) (fun c_48 => ?_)
          | refine lv_icmp_le (tgt := 54) hx hb dX7_pay_48 (by decide) (fun c_48 => ?_) (fun c_48 => ?_)
        · skip
          refine lv_aload_n hx hb dX7_pay_54 rfl (lv_at hl 0 rfl) ?_
          refine kcVv X hP hS (c_X7_records l hI hL hL4) oJ v_X7_51 ⟨Nat.le_of_ble_eq_true rfl, Nat.le_of_ble_eq_true rfl, rfl, rfl⟩ rfl rfl (Nat.le_of_ble_eq_true rfl) hl.1 ⟨Nat.zero_le _, Nat.zero_le _⟩ dX7_pay_55 (fun G_55 H locs hR hP hS => ?_)
          subst hR
          refine lv_aload_n hx hb dX7_pay_58 rfl (lv_at hl 0 rfl) ?_
          refine lv_iload_n hx hb dX7_pay_59 rfl (lv_at hl 1 rfl) ?_
          refine lv_iconst (v := nI 1) hx hb dX7_pay_60 (by decide) ?_
          refine lv_iload_n hx hb dX7_pay_61 rfl (lv_at hl 3 rfl) ?_
          refine kcVv X hP hS (c_X7_setsR l hI (by first | assumption | omega)) oJ v_X7_88 ⟨Nat.le_of_ble_eq_true rfl, Nat.le_of_ble_eq_true rfl, rfl, rfl⟩ rfl rfl (Nat.le_of_ble_eq_true rfl) hl.1 ⟨Nat.zero_le _, Nat.zero_le _⟩ dX7_pay_62 (fun G_62 H locs hR hP hS => ?_)
          subst hR
          refine lv_iload_n hx hb dX7_pay_65 rfl (lv_at hl 3 rfl) ?_
          exact hret _ _ _ _ _ _ (rdP_h hr hn4 (by rw [if_pos c_18, if_pos c_29, if_neg (Int32.not_lt.mpr c_48)]; exact ⟨rfl, rfl⟩)) hP hS dX7_pay_66
        · skip
          refine lv_bipush (v := (-3)) hx hb dX7_pay_51 (by decide) ?_
          exact hret _ _ _ _ _ _ (rdP_h hr hn4 (by rw [if_pos c_18, if_pos c_29, if_pos (Int32.not_le.mp c_48)]; exact ⟨rfl, rfl⟩)) hP hS dX7_pay_53
      · skip
        refine lv_bipush (v := (-4)) hx hb dX7_pay_32 (by decide) ?_
        exact hret _ _ _ _ _ _ (rdP_h hr hn4 (by rw [if_pos c_18, if_neg c_29]; exact ⟨rfl, rfl⟩)) hP hS dX7_pay_34
    · skip
      refine lv_bipush (v := (-2)) hx hb dX7_pay_21 (by decide) ?_
      exact hret _ _ _ _ _ _ (rdP_h hr hn4 (by rw [if_neg c_18]; exact ⟨rfl, rfl⟩)) hP hS dX7_pay_23
  · skip
    have hms := isR_no hn4 (by rw [hn] at c_5; exact c_5)
    refine lv_iconst (v := (-1)) hx hb dX7_pay_8 (by decide) ?_
    exact hret _ _ _ _ _ _ (rdP_m hms ⟨rfl, rfl⟩) hP hS dX7_pay_9

set_option maxHeartbeats 4000000 in
set_option maxRecDepth 100000 in
theorem c_X7_widow (l : Launch) {D : va_G} {τ : Nat → ClassId} {ad : Nat → Nat} (hI : kInj ad) {G : Nat → Nat → Int32} {Wn n L : Nat} {x y : Int32} (hW : G 1 8 = nI Wn) (hW1 : 1 ≤ Wn) (hW6 : Wn ≤ 64) (hn : G 1 2 = nI n) (hn4 : n ≤ 40) (hL : G 0 2 = nI L) (hL4 : L ≤ 4) : kM l yX7_widow cX7_widow 4 (some .int) { frames := 6, cells := 0, slots := 0, locals := 139 } D τ ad [.ref (ad 0), .int x, .int y] G (fun v G' => rdP n x (v = -1 ∧ G' = G) (fun r => if nI 1 ≤ y ∧ y ≤ nI 20 then (if G 1 (9 + 20 * r + 2) = 0 ∧ ¬ G 1 (9 + 20 * r + 6) = nI 1 then v = dueM (G 1) Wn n r ∧ G' = gs (gs (recM G L) 1 (9 + 20 * r + 5) y) 1 (9 + 20 * r + 6) (nI 1) else v = -4 ∧ G' = G) else v = -2 ∧ G' = G)) := by
  refine kMet (own := RX7) (by decide) rfl (Nat.le_of_ble_eq_true rfl) ?_
  intro p9 e9 s9 m9 args9 below9 meth9 c9 Q9 X hx hb hP hS hret ls hl
  have hPs := hP
  have hl : lv_has ls 4 [(0, .ref (ad 0)), (1, .int x), (2, .int y)] := hl
  refine lv_aload_n hx hb dX7_widow_0 rfl (lv_at hl 0 rfl) ?_
  refine lv_iload_n hx hb dX7_widow_1 rfl (lv_at hl 1 rfl) ?_
  refine kcV X hP hS (c_X7_isReader l hI) oJ v_X7_92 ⟨Nat.le_of_ble_eq_true rfl, Nat.le_of_ble_eq_true rfl, rfl, rfl⟩ rfl rfl (Nat.le_of_ble_eq_true rfl) hl.1 ⟨Nat.zero_le _, Nat.zero_le _⟩ dX7_widow_2 (fun r_2 G_2 H locs hR hP hS => ?_)
  obtain ⟨rfl, hG_2⟩ := hR
  rw [hG_2] at hP
  clear hG_2
  first
    | refine kif_ne (tgt := 10) hx hb dX7_widow_5 (by decide) (fun c_5 => ?_) (fun c_5 => ?_)
    | refine lv_if_ne (tgt := 10) hx hb dX7_widow_5 (by decide) (fun c_5 => ?_) (fun c_5 => ?_)
  · skip
    obtain ⟨r, hr, rfl⟩ := isR_yes hn4 (by rw [hn] at c_5; exact c_5)
    refine lv_iload_n hx hb dX7_widow_10 rfl (lv_at hl 2 rfl) ?_
    refine lv_iconst (v := nI 1) hx hb dX7_widow_11 (by decide) ?_
    refine lv_bipush (v := nI 20) hx hb dX7_widow_12 (by decide) ?_
    refine kcS X hP hS (c_X7_isIn l hI) v_X7_28 ⟨Nat.le_of_ble_eq_true rfl, Nat.le_of_ble_eq_true rfl, rfl, rfl⟩ rfl rfl (Nat.le_of_ble_eq_true rfl) hl.1 ⟨Nat.zero_le _, Nat.zero_le _⟩ dX7_widow_14 (fun r_14 G_14 H locs hR hP hS => ?_)
    obtain ⟨rfl, hG_14⟩ := hR
    rw [hG_14] at hP
    clear hG_14
    first
      | refine kif_ne (tgt := 23) hx hb dX7_widow_17 (by decide) (fun c_17 => ?_) (fun c_17 => ?_)
      | refine lv_if_ne (tgt := 23) hx hb dX7_widow_17 (by decide) (fun c_17 => ?_) (fun c_17 => ?_)
    · skip
      refine lv_aload_n hx hb dX7_widow_23 rfl (lv_at hl 0 rfl) ?_
      refine lv_iload_n hx hb dX7_widow_24 rfl (lv_at hl 1 rfl) ?_
      refine kcV X hP hS (c_X7_isOpen l hI (by first | assumption | omega)) oJ v_X7_64 ⟨Nat.le_of_ble_eq_true rfl, Nat.le_of_ble_eq_true rfl, rfl, rfl⟩ rfl rfl (Nat.le_of_ble_eq_true rfl) hl.1 ⟨Nat.zero_le _, Nat.zero_le _⟩ dX7_widow_25 (fun r_25 G_25 H locs hR hP hS => ?_)
      obtain ⟨rfl, hG_25⟩ := hR
      rw [hG_25] at hP
      clear hG_25
      first
        | refine kif_eq (tgt := 42) hx hb dX7_widow_28 (by decide) (fun c_28 => ?_) (fun c_28 => ?_)
        | refine lv_if_eq (tgt := 42) hx hb dX7_widow_28 (by decide) (fun c_28 => ?_) (fun c_28 => ?_)
      · skip
        refine lv_bipush (v := (-4)) hx hb dX7_widow_42 (by decide) ?_
        exact hret _ _ _ _ _ _ (rdP_h hr hn4 (by rw [if_pos c_17, if_neg (fun z => c_28 z.1)]; exact ⟨rfl, rfl⟩)) hP hS dX7_widow_44
      · skip
        refine lv_aload_n hx hb dX7_widow_31 rfl (lv_at hl 0 rfl) ?_
        refine lv_iload_n hx hb dX7_widow_32 rfl (lv_at hl 1 rfl) ?_
        refine lv_bipush (v := nI 6) hx hb dX7_widow_33 (by decide) ?_
        refine kcV X hP hS (c_X7_ofR l hI (by first | assumption | omega)) oJ v_X7_32 ⟨Nat.le_of_ble_eq_true rfl, Nat.le_of_ble_eq_true rfl, rfl, rfl⟩ rfl rfl (Nat.le_of_ble_eq_true rfl) hl.1 ⟨Nat.zero_le _, Nat.zero_le _⟩ dX7_widow_35 (fun r_35 G_35 H locs hR hP hS => ?_)
        obtain ⟨rfl, hG_35⟩ := hR
        rw [hG_35] at hP
        clear hG_35
        refine lv_iconst (v := nI 1) hx hb dX7_widow_38 (by decide) ?_
        first
          | refine kic_ne (tgt := 45) hx hb dX7_widow_39 (by decide) (by with_reducible rfl) (by with_reducible rfl) (by omega) (by omega) (fun c_39 => ?_) (fun c_39 => ?_)
          | refine lv_icmp_ne (tgt := 45) hx hb dX7_widow_39 (by decide) (fun c_39 => ?_) (fun c_39 => ?_)
        · skip
          refine lv_aload_n hx hb dX7_widow_45 rfl (lv_at hl 0 rfl) ?_
          refine kcVv X hP hS (c_X7_records l hI hL hL4) oJ v_X7_51 ⟨Nat.le_of_ble_eq_true rfl, Nat.le_of_ble_eq_true rfl, rfl, rfl⟩ rfl rfl (Nat.le_of_ble_eq_true rfl) hl.1 ⟨Nat.zero_le _, Nat.zero_le _⟩ dX7_widow_46 (fun G_46 H locs hR hP hS => ?_)
          subst hR
          refine lv_aload_n hx hb dX7_widow_49 rfl (lv_at hl 0 rfl) ?_
          refine lv_iload_n hx hb dX7_widow_50 rfl (lv_at hl 1 rfl) ?_
          refine kcV X hP hS (c_X7_dueOf l hI (Wn := Wn) (n := n) (by rw [recM_1]; exact hW) hW1 hW6 (by rw [recM_1]; exact hn) hn4 (by omega)) oJ v_X7_95 ⟨Nat.le_of_ble_eq_true rfl, Nat.le_of_ble_eq_true rfl, rfl, rfl⟩ rfl rfl (Nat.le_of_ble_eq_true rfl) hl.1 ⟨Nat.zero_le _, Nat.zero_le _⟩ dX7_widow_51 (fun r_51 G_51 H locs hR hP hS => ?_)
          obtain ⟨rfl, hG_51⟩ := hR
          rw [hG_51] at hP
          clear hG_51
          rw [recM_1]
          refine kist hx hb dX7_widow_54 rfl hl (by decide) (kp_3_3 rfl) (fun ls hl => ?_)
          refine lv_aload_n hx hb dX7_widow_55 rfl (lv_at hl 0 rfl) ?_
          refine lv_iload_n hx hb dX7_widow_56 rfl (lv_at hl 1 rfl) ?_
          refine lv_iconst (v := nI 5) hx hb dX7_widow_57 (by decide) ?_
          refine lv_iload_n hx hb dX7_widow_58 rfl (lv_at hl 2 rfl) ?_
          refine kcVv X hP hS (c_X7_setsR l hI (by first | assumption | omega)) oJ v_X7_88 ⟨Nat.le_of_ble_eq_true rfl, Nat.le_of_ble_eq_true rfl, rfl, rfl⟩ rfl rfl (Nat.le_of_ble_eq_true rfl) hl.1 ⟨Nat.zero_le _, Nat.zero_le _⟩ dX7_widow_59 (fun G_59 H locs hR hP hS => ?_)
          subst hR
          refine lv_aload_n hx hb dX7_widow_62 rfl (lv_at hl 0 rfl) ?_
          refine lv_iload_n hx hb dX7_widow_63 rfl (lv_at hl 1 rfl) ?_
          refine lv_bipush (v := nI 6) hx hb dX7_widow_64 (by decide) ?_
          refine lv_iconst (v := nI 1) hx hb dX7_widow_66 (by decide) ?_
          refine kcVv X hP hS (c_X7_setsR l hI (by first | assumption | omega)) oJ v_X7_88 ⟨Nat.le_of_ble_eq_true rfl, Nat.le_of_ble_eq_true rfl, rfl, rfl⟩ rfl rfl (Nat.le_of_ble_eq_true rfl) hl.1 ⟨Nat.zero_le _, Nat.zero_le _⟩ dX7_widow_67 (fun G_67 H locs hR hP hS => ?_)
          subst hR
          refine lv_iload_n hx hb dX7_widow_70 rfl (lv_at hl 3 rfl) ?_
          exact hret _ _ _ _ _ _ (rdP_h hr hn4 (by rw [if_pos c_17, if_pos ⟨c_28, c_39⟩]; exact ⟨rfl, rfl⟩)) hP hS dX7_widow_71
        · skip
          refine lv_bipush (v := (-4)) hx hb dX7_widow_42 (by decide) ?_
          exact hret _ _ _ _ _ _ (rdP_h hr hn4 (by rw [if_pos c_17, if_neg (fun z => z.2 c_39)]; exact ⟨rfl, rfl⟩)) hP hS dX7_widow_44
    · skip
      refine lv_bipush (v := (-2)) hx hb dX7_widow_20 (by decide) ?_
      exact hret _ _ _ _ _ _ (rdP_h hr hn4 (by rw [if_neg c_17]; exact ⟨rfl, rfl⟩)) hP hS dX7_widow_22
  · skip
    have hms := isR_no hn4 (by rw [hn] at c_5; exact c_5)
    refine lv_iconst (v := (-1)) hx hb dX7_widow_8 (by decide) ?_
    exact hret _ _ _ _ _ _ (rdP_m hms ⟨rfl, rfl⟩) hP hS dX7_widow_9

set_option maxHeartbeats 4000000 in
set_option maxRecDepth 100000 in
theorem c_X7_close (l : Launch) {D : va_G} {τ : Nat → ClassId} {ad : Nat → Nat} (hI : kInj ad) {G : Nat → Nat → Int32} {Wn n L : Nat} {x : Int32} (hW : G 1 8 = nI Wn) (hW1 : 1 ≤ Wn) (hW6 : Wn ≤ 64) (hn : G 1 2 = nI n) (hn4 : n ≤ 40) (hL : G 0 2 = nI L) (hL4 : L ≤ 4) : kM l yX7_close cX7_close 2 (some .int) { frames := 5, cells := 0, slots := 0, locals := 117 } D τ ad [.ref (ad 0), .int x] G (fun v G' => rdP n x (v = -1 ∧ G' = G) (fun r => if G 1 (9 + 20 * r + 2) = 0 then v = nI (rmD (upd (G 1) (9 + 20 * r + 2) (nI 2)) n Wn Wn).2.2 ∧ G' = rw1 (gs (recM G L) 1 (9 + 20 * r + 2) (nI 2)) (rmN (upd (G 1) (9 + 20 * r + 2) (nI 2)) n Wn) else v = -4 ∧ G' = G)) := by
  refine kMet (own := RX7) (by decide) rfl (Nat.le_of_ble_eq_true rfl) ?_
  intro p9 e9 s9 m9 args9 below9 meth9 c9 Q9 X hx hb hP hS hret ls hl
  have hPs := hP
  have hl : lv_has ls 2 [(0, .ref (ad 0)), (1, .int x)] := hl
  refine lv_aload_n hx hb dX7_close_0 rfl (lv_at hl 0 rfl) ?_
  refine lv_iload_n hx hb dX7_close_1 rfl (lv_at hl 1 rfl) ?_
  refine kcV X hP hS (c_X7_isReader l hI) oJ v_X7_92 ⟨Nat.le_of_ble_eq_true rfl, Nat.le_of_ble_eq_true rfl, rfl, rfl⟩ rfl rfl (Nat.le_of_ble_eq_true rfl) hl.1 ⟨Nat.zero_le _, Nat.zero_le _⟩ dX7_close_2 (fun r_2 G_2 H locs hR hP hS => ?_)
  obtain ⟨rfl, hG_2⟩ := hR
  rw [hG_2] at hP
  clear hG_2
  first
    | refine kif_ne (tgt := 10) hx hb dX7_close_5 (by decide) (fun c_5 => ?_) (fun c_5 => ?_)
    | refine lv_if_ne (tgt := 10) hx hb dX7_close_5 (by decide) (fun c_5 => ?_) (fun c_5 => ?_)
  · skip
    obtain ⟨r, hr, rfl⟩ := isR_yes hn4 (by rw [hn] at c_5; exact c_5)
    refine lv_aload_n hx hb dX7_close_10 rfl (lv_at hl 0 rfl) ?_
    refine lv_iload_n hx hb dX7_close_11 rfl (lv_at hl 1 rfl) ?_
    refine kcV X hP hS (c_X7_isOpen l hI (by first | assumption | omega)) oJ v_X7_64 ⟨Nat.le_of_ble_eq_true rfl, Nat.le_of_ble_eq_true rfl, rfl, rfl⟩ rfl rfl (Nat.le_of_ble_eq_true rfl) hl.1 ⟨Nat.zero_le _, Nat.zero_le _⟩ dX7_close_12 (fun r_12 G_12 H locs hR hP hS => ?_)
    obtain ⟨rfl, hG_12⟩ := hR
    rw [hG_12] at hP
    clear hG_12
    first
      | refine kif_ne (tgt := 21) hx hb dX7_close_15 (by decide) (fun c_15 => ?_) (fun c_15 => ?_)
      | refine lv_if_ne (tgt := 21) hx hb dX7_close_15 (by decide) (fun c_15 => ?_) (fun c_15 => ?_)
    · skip
      refine lv_aload_n hx hb dX7_close_21 rfl (lv_at hl 0 rfl) ?_
      refine kcVv X hP hS (c_X7_records l hI hL hL4) oJ v_X7_51 ⟨Nat.le_of_ble_eq_true rfl, Nat.le_of_ble_eq_true rfl, rfl, rfl⟩ rfl rfl (Nat.le_of_ble_eq_true rfl) hl.1 ⟨Nat.zero_le _, Nat.zero_le _⟩ dX7_close_22 (fun G_22 H locs hR hP hS => ?_)
      subst hR
      refine lv_aload_n hx hb dX7_close_25 rfl (lv_at hl 0 rfl) ?_
      refine lv_iload_n hx hb dX7_close_26 rfl (lv_at hl 1 rfl) ?_
      refine lv_iconst (v := nI 2) hx hb dX7_close_27 (by decide) ?_
      refine lv_iconst (v := nI 2) hx hb dX7_close_28 (by decide) ?_
      refine kcVv X hP hS (c_X7_setsR l hI (by first | assumption | omega)) oJ v_X7_88 ⟨Nat.le_of_ble_eq_true rfl, Nat.le_of_ble_eq_true rfl, rfl, rfl⟩ rfl rfl (Nat.le_of_ble_eq_true rfl) hl.1 ⟨Nat.zero_le _, Nat.zero_le _⟩ dX7_close_29 (fun G_29 H locs hR hP hS => ?_)
      subst hR
      refine lv_aload_n hx hb dX7_close_32 rfl (lv_at hl 0 rfl) ?_
      refine kcV X hP hS (c_X7_removes l hI (Wn := Wn) (n := n) (by rw [gs_up, recM_1, upd_ne (by omega)]; exact hW) hW1 hW6 (by rw [gs_up, recM_1, upd_ne (by omega)]; exact hn) hn4) oJ v_X7_98 ⟨Nat.le_of_ble_eq_true rfl, Nat.le_of_ble_eq_true rfl, rfl, rfl⟩ rfl rfl (Nat.le_of_ble_eq_true rfl) hl.1 ⟨Nat.zero_le _, Nat.zero_le _⟩ dX7_close_33 (fun r_33 G_33 H locs hR hP hS => ?_)
      obtain ⟨rfl, hG_33⟩ := hR
      rw [gs_up, recM_1] at hG_33 ⊢
      rw [hG_33] at hP
      exact hret _ _ _ _ _ _ (rdP_h hr hn4 (by rw [if_pos c_15]; exact ⟨rfl, rfl⟩)) hP hS dX7_close_36
    · skip
      refine lv_bipush (v := (-4)) hx hb dX7_close_18 (by decide) ?_
      exact hret _ _ _ _ _ _ (rdP_h hr hn4 (by rw [if_neg c_15]; exact ⟨rfl, rfl⟩)) hP hS dX7_close_20
  · skip
    have hms := isR_no hn4 (by rw [hn] at c_5; exact c_5)
    refine lv_iconst (v := (-1)) hx hb dX7_close_8 (by decide) ?_
    exact hret _ _ _ _ _ _ (rdP_m hms ⟨rfl, rfl⟩) hP hS dX7_close_9

set_option maxHeartbeats 4000000 in
set_option maxRecDepth 100000 in
theorem c_X7_setRent (l : Launch) {D : va_G} {τ : Nat → ClassId} {ad : Nat → Nat} (hI : kInj ad) {G : Nat → Nat → Int32} {L : Nat} {y : Int32} (hL : G 0 2 = nI L) (hL4 : L ≤ 4) : kM l yX7_setRent cX7_setRent 3 (some .int) { frames := 2, cells := 0, slots := 0, locals := 43 } D τ ad [.ref (ad 0), .int y] G (fun v G' => if nI 0 ≤ y ∧ y ≤ nI 99 then (if G 1 4 = y then v = -5 ∧ G' = G else v = G 1 4 ∧ G' = gs (recM G L) 1 4 y) else v = -2 ∧ G' = G) := by
  refine kMet (own := RX7) (by decide) rfl (Nat.le_of_ble_eq_true rfl) ?_
  intro p9 e9 s9 m9 args9 below9 meth9 c9 Q9 X hx hb hP hS hret ls hl
  have hPs := hP
  have hl : lv_has ls 3 [(0, .ref (ad 0)), (1, .int y)] := hl
  refine lv_iload_n hx hb dX7_setRent_0 rfl (lv_at hl 1 rfl) ?_
  refine lv_iconst (v := nI 0) hx hb dX7_setRent_1 (by decide) ?_
  refine lv_bipush (v := nI 99) hx hb dX7_setRent_2 (by decide) ?_
  refine kcS X hP hS (c_X7_isIn l hI) v_X7_28 ⟨Nat.le_of_ble_eq_true rfl, Nat.le_of_ble_eq_true rfl, rfl, rfl⟩ rfl rfl (Nat.le_of_ble_eq_true rfl) hl.1 ⟨Nat.zero_le _, Nat.zero_le _⟩ dX7_setRent_4 (fun r_4 G_4 H locs hR hP hS => ?_)
  obtain ⟨rfl, hG_4⟩ := hR
  rw [hG_4] at hP
  clear hG_4
  first
    | refine kif_ne (tgt := 13) hx hb dX7_setRent_7 (by decide) (fun c_7 => ?_) (fun c_7 => ?_)
    | refine lv_if_ne (tgt := 13) hx hb dX7_setRent_7 (by decide) (fun c_7 => ?_) (fun c_7 => ?_)
  · skip
    refine lv_aload_n hx hb dX7_setRent_13 rfl (lv_at hl 0 rfl) ?_
    refine kget X hP oJ g_X7_7 rfl dX7_setRent_14 ?_
    refine lv_iconst (v := nI 4) hx hb dX7_setRent_17 (by decide) ?_
    refine kiald X hP aJ1 (by omega) dX7_setRent_18 ?_
    refine kist hx hb dX7_setRent_19 rfl hl (by decide) (kp_2_2 rfl) (fun ls hl => ?_)
    refine lv_iload_n hx hb dX7_setRent_20 rfl (lv_at hl 2 rfl) ?_
    refine lv_iload_n hx hb dX7_setRent_21 rfl (lv_at hl 1 rfl) ?_
    first
      | refine kic_ne (tgt := 28) hx hb dX7_setRent_22 (by decide) (by with_reducible rfl) (by with_reducible rfl) (by omega) (by omega) (fun c_22 => ?_) (fun c_22 => ?_)
      | refine lv_icmp_ne (tgt := 28) hx hb dX7_setRent_22 (by decide) (fun c_22 => ?_) (fun c_22 => ?_)
    · skip
      refine lv_aload_n hx hb dX7_setRent_28 rfl (lv_at hl 0 rfl) ?_
      refine kcVv X hP hS (c_X7_records l hI hL hL4) oJ v_X7_51 ⟨Nat.le_of_ble_eq_true rfl, Nat.le_of_ble_eq_true rfl, rfl, rfl⟩ rfl rfl (Nat.le_of_ble_eq_true rfl) hl.1 ⟨Nat.zero_le _, Nat.zero_le _⟩ dX7_setRent_29 (fun G_29 H locs hR hP hS => ?_)
      subst hR
      refine lv_aload_n hx hb dX7_setRent_32 rfl (lv_at hl 0 rfl) ?_
      refine kget X hP oJ g_X7_7 rfl dX7_setRent_33 ?_
      refine lv_iconst (v := nI 4) hx hb dX7_setRent_36 (by decide) ?_
      refine lv_iload_n hx hb dX7_setRent_37 rfl (lv_at hl 1 rfl) ?_
      refine kiast X hI hP hS aJ1 (by omega) dX7_setRent_38 (fun H locs hP hS => ?_)
      refine lv_iload_n hx hb dX7_setRent_39 rfl (lv_at hl 2 rfl) ?_
      exact hret _ _ _ _ _ _ (by rw [if_pos c_7, if_neg c_22]; exact ⟨rfl, rfl⟩) hP hS dX7_setRent_40
    · skip
      refine lv_bipush (v := (-5)) hx hb dX7_setRent_25 (by decide) ?_
      exact hret _ _ _ _ _ _ (by rw [if_pos c_7, if_pos c_22]; exact ⟨rfl, rfl⟩) hP hS dX7_setRent_27
  · skip
    refine lv_bipush (v := (-2)) hx hb dX7_setRent_10 (by decide) ?_
    exact hret _ _ _ _ _ _ (by rw [if_neg c_7]; exact ⟨rfl, rfl⟩) hP hS dX7_setRent_12

set_option maxHeartbeats 4000000 in
set_option maxRecDepth 100000 in
theorem c_X7_forbidSkew (l : Launch) {D : va_G} {τ : Nat → ClassId} {ad : Nat → Nat} (hI : kInj ad) {G : Nat → Nat → Int32} {k L b : Nat} (hk : G 1 6 = nI k) (hk4 : k ≤ 40) (hL : G 0 2 = nI L) (hL4 : L ≤ 4) (hb1 : b ≤ 1) : kM l yX7_forbidSkew cX7_forbidSkew 3 (some .int) { frames := 3, cells := 0, slots := 0, locals := 69 } D τ ad [.ref (ad 0), .int (nI b)] G (fun v G' => if G 1 7 = nI b then v = -5 ∧ G' = G else v = nI (cn (fun q => cn (swM (upd (G 1) 7 (nI b)) q) q) k) ∧ G' = gs (recM G L) 1 7 (nI b)) := by
  refine kMet (own := RX7) (by decide) rfl (Nat.le_of_ble_eq_true rfl) ?_
  intro p9 e9 s9 m9 args9 below9 meth9 c9 Q9 X hx hb hP hS hret ls hl
  have hPs := hP
  have hl : lv_has ls 3 [(0, .ref (ad 0)), (1, .int (nI b))] := hl
  refine lv_iload_n hx hb dX7_forbidSkew_0 rfl (lv_at hl 1 rfl) ?_
  first
    | refine kif_eq (tgt := 8) hx hb dX7_forbidSkew_1 (by decide) (fun c_1 => ?_) (fun c_1 => ?_)
    | refine lv_if_eq (tgt := 8) hx hb dX7_forbidSkew_1 (by decide) (fun c_1 => ?_) (fun c_1 => ?_)
  · skip
    have eb : b = 0 := by
      rcases Nat.eq_zero_or_pos b with q | q
      · exact q
      · exact absurd c_1 (nI_ne0 q (by omega))
    subst eb
    refine lv_iconst (v := nI 0) hx hb dX7_forbidSkew_8 (by decide) ?_
    refine kist hx hb dX7_forbidSkew_9 rfl hl (by decide) (kp_2_2 rfl) (fun ls hl => ?_)
    refine lv_aload_n hx hb dX7_forbidSkew_10 rfl (lv_at hl 0 rfl) ?_
    refine kget X hP oJ g_X7_7 rfl dX7_forbidSkew_11 ?_
    refine lv_bipush (v := nI 7) hx hb dX7_forbidSkew_14 (by decide) ?_
    refine kiald X hP aJ1 (by omega) dX7_forbidSkew_16 ?_
    refine lv_iload_n hx hb dX7_forbidSkew_17 rfl (lv_at hl 2 rfl) ?_
    first
      | refine kic_ne (tgt := 24) hx hb dX7_forbidSkew_18 (by decide) (by with_reducible rfl) (by with_reducible rfl) (by omega) (by omega) (fun c_18 => ?_) (fun c_18 => ?_)
      | refine lv_icmp_ne (tgt := 24) hx hb dX7_forbidSkew_18 (by decide) (fun c_18 => ?_) (fun c_18 => ?_)
    · skip
      refine lv_aload_n hx hb dX7_forbidSkew_24 rfl (lv_at hl 0 rfl) ?_
      refine kcVv X hP hS (c_X7_records l hI hL hL4) oJ v_X7_51 ⟨Nat.le_of_ble_eq_true rfl, Nat.le_of_ble_eq_true rfl, rfl, rfl⟩ rfl rfl (Nat.le_of_ble_eq_true rfl) hl.1 ⟨Nat.zero_le _, Nat.zero_le _⟩ dX7_forbidSkew_25 (fun G_25 H locs hR hP hS => ?_)
      subst hR
      refine lv_aload_n hx hb dX7_forbidSkew_28 rfl (lv_at hl 0 rfl) ?_
      refine kget X hP oJ g_X7_7 rfl dX7_forbidSkew_29 ?_
      refine lv_bipush (v := nI 7) hx hb dX7_forbidSkew_32 (by decide) ?_
      refine lv_iload_n hx hb dX7_forbidSkew_34 rfl (lv_at hl 2 rfl) ?_
      refine kiast X hI hP hS aJ1 (by omega) dX7_forbidSkew_35 (fun H locs hP hS => ?_)
      refine lv_aload_n hx hb dX7_forbidSkew_36 rfl (lv_at hl 0 rfl) ?_
      refine kcV X hP hS (c_X7_pairs l hI (k := k) (by rw [gs_up, recM_1, upd_ne (by omega)]; exact hk) hk4) oJ v_X7_102 ⟨Nat.le_of_ble_eq_true rfl, Nat.le_of_ble_eq_true rfl, rfl, rfl⟩ rfl rfl (Nat.le_of_ble_eq_true rfl) hl.1 ⟨Nat.zero_le _, Nat.zero_le _⟩ dX7_forbidSkew_37 (fun r_37 G_37 H locs hR hP hS => ?_)
      obtain ⟨rfl, hG_37⟩ := hR
      rw [hG_37] at hP
      clear hG_37
      rw [gs_up, recM_1]
      exact hret _ _ _ _ _ _ (by rw [if_neg c_18]; exact ⟨rfl, rfl⟩) hP hS dX7_forbidSkew_40
    · skip
      refine lv_bipush (v := (-5)) hx hb dX7_forbidSkew_21 (by decide) ?_
      exact hret _ _ _ _ _ _ (by rw [if_pos c_18]; exact ⟨rfl, rfl⟩) hP hS dX7_forbidSkew_23
  · skip
    have eb : b = 1 := by
      rcases Nat.eq_zero_or_pos b with q | q
      · exact absurd (by rw [q]; rfl) c_1
      · omega
    subst eb
    refine lv_iconst (v := nI 1) hx hb dX7_forbidSkew_4 (by decide) ?_
    refine lv_goto (tgt := 9) hx hb dX7_forbidSkew_5 (by decide) ?_
    refine kist hx hb dX7_forbidSkew_9 rfl hl (by decide) (kp_2_2 rfl) (fun ls hl => ?_)
    refine lv_aload_n hx hb dX7_forbidSkew_10 rfl (lv_at hl 0 rfl) ?_
    refine kget X hP oJ g_X7_7 rfl dX7_forbidSkew_11 ?_
    refine lv_bipush (v := nI 7) hx hb dX7_forbidSkew_14 (by decide) ?_
    refine kiald X hP aJ1 (by omega) dX7_forbidSkew_16 ?_
    refine lv_iload_n hx hb dX7_forbidSkew_17 rfl (lv_at hl 2 rfl) ?_
    first
      | refine kic_ne (tgt := 24) hx hb dX7_forbidSkew_18 (by decide) (by with_reducible rfl) (by with_reducible rfl) (by omega) (by omega) (fun c_18 => ?_) (fun c_18 => ?_)
      | refine lv_icmp_ne (tgt := 24) hx hb dX7_forbidSkew_18 (by decide) (fun c_18 => ?_) (fun c_18 => ?_)
    · skip
      refine lv_aload_n hx hb dX7_forbidSkew_24 rfl (lv_at hl 0 rfl) ?_
      refine kcVv X hP hS (c_X7_records l hI hL hL4) oJ v_X7_51 ⟨Nat.le_of_ble_eq_true rfl, Nat.le_of_ble_eq_true rfl, rfl, rfl⟩ rfl rfl (Nat.le_of_ble_eq_true rfl) hl.1 ⟨Nat.zero_le _, Nat.zero_le _⟩ dX7_forbidSkew_25 (fun G_25 H locs hR hP hS => ?_)
      subst hR
      refine lv_aload_n hx hb dX7_forbidSkew_28 rfl (lv_at hl 0 rfl) ?_
      refine kget X hP oJ g_X7_7 rfl dX7_forbidSkew_29 ?_
      refine lv_bipush (v := nI 7) hx hb dX7_forbidSkew_32 (by decide) ?_
      refine lv_iload_n hx hb dX7_forbidSkew_34 rfl (lv_at hl 2 rfl) ?_
      refine kiast X hI hP hS aJ1 (by omega) dX7_forbidSkew_35 (fun H locs hP hS => ?_)
      refine lv_aload_n hx hb dX7_forbidSkew_36 rfl (lv_at hl 0 rfl) ?_
      refine kcV X hP hS (c_X7_pairs l hI (k := k) (by rw [gs_up, recM_1, upd_ne (by omega)]; exact hk) hk4) oJ v_X7_102 ⟨Nat.le_of_ble_eq_true rfl, Nat.le_of_ble_eq_true rfl, rfl, rfl⟩ rfl rfl (Nat.le_of_ble_eq_true rfl) hl.1 ⟨Nat.zero_le _, Nat.zero_le _⟩ dX7_forbidSkew_37 (fun r_37 G_37 H locs hR hP hS => ?_)
      obtain ⟨rfl, hG_37⟩ := hR
      rw [hG_37] at hP
      clear hG_37
      rw [gs_up, recM_1]
      exact hret _ _ _ _ _ _ (by rw [if_neg c_18]; exact ⟨rfl, rfl⟩) hP hS dX7_forbidSkew_40
    · skip
      refine lv_bipush (v := (-5)) hx hb dX7_forbidSkew_21 (by decide) ?_
      exact hret _ _ _ _ _ _ (by rw [if_pos c_18]; exact ⟨rfl, rfl⟩) hP hS dX7_forbidSkew_23

set_option maxHeartbeats 4000000 in
set_option maxRecDepth 100000 in
theorem c_X7_type (l : Launch) {D : va_G} {τ : Nat → ClassId} {ad : Nat → Nat} (hI : kInj ad) {G : Nat → Nat → Int32} {T q : Nat} (hT : G 0 5 = nI T) (hT6 : T ≤ 60) : kM l yX7_type cX7_type 2 (some .int) { frames := 0, cells := 0, slots := 0, locals := 0 } D τ ad [.ref (ad 0), .int (nI q)] G (fun v G' => if T = 60 then v = -3 ∧ G' = G else v = nI (T + 1) ∧ G' = gs (gs G 3 T (nI q)) 0 5 (nI (T + 1))) := by
  refine kMet (own := RX7) (by decide) rfl (Nat.le_of_ble_eq_true rfl) ?_
  intro p9 e9 s9 m9 args9 below9 meth9 c9 Q9 X hx hb hP hS hret ls hl
  have hPs := hP
  have hl : lv_has ls 2 [(0, .ref (ad 0)), (1, .int (nI q))] := hl
  refine lv_aload_n hx hb dX7_type_0 rfl (lv_at hl 0 rfl) ?_
  refine kget X hP oJ g_X7_145 (congrArg (fun z => some (Value.int z)) hT) dX7_type_1 ?_
  refine lv_bipush (v := nI 60) hx hb dX7_type_4 (by decide) ?_
  first
    | refine kic_ne (tgt := 12) hx hb dX7_type_6 (by decide) (by with_reducible rfl) (by with_reducible rfl) (by omega) (by omega) (fun c_6 => ?_) (fun c_6 => ?_)
    | refine lv_icmp_ne (tgt := 12) hx hb dX7_type_6 (by decide) (fun c_6 => ?_) (fun c_6 => ?_)
  · skip
    refine lv_aload_n hx hb dX7_type_12 rfl (lv_at hl 0 rfl) ?_
    refine kget X hP oJ g_X7_16 rfl dX7_type_13 ?_
    refine lv_aload_n hx hb dX7_type_16 rfl (lv_at hl 0 rfl) ?_
    refine kget X hP oJ g_X7_145 (congrArg (fun z => some (Value.int z)) hT) dX7_type_17 ?_
    refine lv_iload_n hx hb dX7_type_20 rfl (lv_at hl 1 rfl) ?_
    refine kiast X hI hP hS aJ3 (by omega) dX7_type_21 (fun H locs hP hS => ?_)
    refine lv_aload_n hx hb dX7_type_22 rfl (lv_at hl 0 rfl) ?_
    refine lv_dup hx hb dX7_type_23 rfl ?_
    refine kget X hP oJ g_X7_145 (congrArg (fun z => some (Value.int z)) (by simp [gs, hT] : _ = nI T)) dX7_type_24 ?_
    refine lv_iconst (v := nI 1) hx hb dX7_type_27 (by decide) ?_
    first
      | refine kadd hx hb dX7_type_28 (by with_reducible rfl) (by with_reducible rfl) ?_
      | refine lv_iadd hx hb dX7_type_28 ?_
    refine kput X hI hP hS oJ g_X7_145 (fun _ => rfl) rfl (fun _ => Nat.le_of_ble_eq_true rfl) rfl rfl dX7_type_29 (fun H locs hP hS => ?_)
    refine lv_aload_n hx hb dX7_type_32 rfl (lv_at hl 0 rfl) ?_
    refine kget X hP oJ g_X7_145 (congrArg (fun z => some (Value.int z)) (by simp [gs] : _ = nI (T + 1))) dX7_type_33 ?_
    exact hret _ _ _ _ _ _ (by rw [if_neg c_6]; exact ⟨rfl, rfl⟩) hP hS dX7_type_36
  · skip
    refine lv_bipush (v := (-3)) hx hb dX7_type_9 (by decide) ?_
    exact hret _ _ _ _ _ _ (by rw [if_pos c_6]; exact ⟨rfl, rfl⟩) hP hS dX7_type_11

set_option maxHeartbeats 4000000 in
set_option maxRecDepth 100000 in
theorem c_X7_clearText (l : Launch) {D : va_G} {τ : Nat → ClassId} {ad : Nat → Nat} (hI : kInj ad) {G : Nat → Nat → Int32} {T : Nat} (hT : G 0 5 = nI T) : kM l yX7_clearText cX7_clearText 2 (some .int) { frames := 0, cells := 0, slots := 0, locals := 0 } D τ ad [.ref (ad 0)] G (fun v G' => v = nI T ∧ G' = gs G 0 5 (nI 0)) := by
  refine kMet (own := RX7) (by decide) rfl (Nat.le_of_ble_eq_true rfl) ?_
  intro p9 e9 s9 m9 args9 below9 meth9 c9 Q9 X hx hb hP hS hret ls hl
  have hPs := hP
  have hl : lv_has ls 2 [(0, .ref (ad 0))] := hl
  refine lv_aload_n hx hb dX7_clearText_0 rfl (lv_at hl 0 rfl) ?_
  refine kget X hP oJ g_X7_145 (congrArg (fun z => some (Value.int z)) hT) dX7_clearText_1 ?_
  refine kist hx hb dX7_clearText_4 rfl hl (by decide) (kp_1_1 rfl) (fun ls hl => ?_)
  refine lv_aload_n hx hb dX7_clearText_5 rfl (lv_at hl 0 rfl) ?_
  refine lv_iconst (v := nI 0) hx hb dX7_clearText_6 (by decide) ?_
  refine kput X hI hP hS oJ g_X7_145 (fun _ => rfl) rfl (fun _ => Nat.le_of_ble_eq_true rfl) rfl rfl dX7_clearText_7 (fun H locs hP hS => ?_)
  refine lv_iload_n hx hb dX7_clearText_10 rfl (lv_at hl 1 rfl) ?_
  exact hret _ _ _ _ _ _ (⟨rfl, rfl⟩) hP hS dX7_clearText_11

set_option maxHeartbeats 4000000 in
set_option maxRecDepth 100000 in
theorem c_X7_read (l : Launch) {D : va_G} {τ : Nat → ClassId} {ad : Nat → Nat} (hI : kInj ad) {G : Nat → Nat → Int32} {Wn n L : Nat} {x y : Int32} (hW : G 1 8 = nI Wn) (hW1 : 1 ≤ Wn) (hW6 : Wn ≤ 64) (hn : G 1 2 = nI n) (hn4 : n ≤ 40) (hL : G 0 2 = nI L) (hL4 : L ≤ 4) : kM l yX7_read cX7_read 3 (some .int) { frames := 2, cells := 0, slots := 0, locals := 48 } D τ ad [.ref (ad 0), .int x, .int y] G (fun v G' => rdP n x (v = -1 ∧ G' = G) (fun r => rdP 12 y (v = -1 ∧ G' = G) (fun c => if G 1 (9 + 20 * r + 2) = 0 then (if hw (G 1 (9 + 20 * r + 4)) c then v = G 1 (9 + 20 * r + (8 + c)) ∧ G' = recM G L else v = G' 1 (809 + 3 * vA (G' 1) Wn (nI c) (G' 1 (9 + 20 * r + 0)) + 2) ∧ G' = gs (recM G L) 1 (9 + 20 * r + 3) (G 1 (9 + 20 * r + 3) ||| bt c)) else v = -4 ∧ G' = G))) := by
  refine kMet (own := RX7) (by decide) rfl (Nat.le_of_ble_eq_true rfl) ?_
  intro p9 e9 s9 m9 args9 below9 meth9 c9 Q9 X hx hb hP hS hret ls hl
  have hPs := hP
  have hl : lv_has ls 3 [(0, .ref (ad 0)), (1, .int x), (2, .int y)] := hl
  refine lv_aload_n hx hb dX7_read_0 rfl (lv_at hl 0 rfl) ?_
  refine lv_iload_n hx hb dX7_read_1 rfl (lv_at hl 1 rfl) ?_
  refine kcV X hP hS (c_X7_isReader l hI) oJ v_X7_92 ⟨Nat.le_of_ble_eq_true rfl, Nat.le_of_ble_eq_true rfl, rfl, rfl⟩ rfl rfl (Nat.le_of_ble_eq_true rfl) hl.1 ⟨Nat.zero_le _, Nat.zero_le _⟩ dX7_read_2 (fun r_2 G_2 H locs hR hP hS => ?_)
  obtain ⟨rfl, hG_2⟩ := hR
  rw [hG_2] at hP
  clear hG_2
  first
    | refine kif_eq (tgt := 15) hx hb dX7_read_5 (by decide) (fun c_5 => ?_) (fun c_5 => ?_)
    | refine lv_if_eq (tgt := 15) hx hb dX7_read_5 (by decide) (fun c_5 => ?_) (fun c_5 => ?_)
  · skip
    have hms := isR_no hn4 (by rw [hn] at c_5; exact c_5)
    refine lv_iconst (v := (-1)) hx hb dX7_read_15 (by decide) ?_
    exact hret _ _ _ _ _ _ (rdP_m hms ⟨rfl, rfl⟩) hP hS dX7_read_16
  · skip
    obtain ⟨r, hr, rfl⟩ := isR_yes hn4 (by rw [hn] at c_5; exact c_5)
    refine lv_iload_n hx hb dX7_read_8 rfl (lv_at hl 2 rfl) ?_
    refine kcS X hP hS (c_X7_isCell l hI) v_X7_108 ⟨Nat.le_of_ble_eq_true rfl, Nat.le_of_ble_eq_true rfl, rfl, rfl⟩ rfl rfl (Nat.le_of_ble_eq_true rfl) hl.1 ⟨Nat.zero_le _, Nat.zero_le _⟩ dX7_read_9 (fun r_9 G_9 H locs hR hP hS => ?_)
    obtain ⟨rfl, hG_9⟩ := hR
    rw [hG_9] at hP
    clear hG_9
    first
      | refine kif_ne (tgt := 17) hx hb dX7_read_12 (by decide) (fun c_12 => ?_) (fun c_12 => ?_)
      | refine lv_if_ne (tgt := 17) hx hb dX7_read_12 (by decide) (fun c_12 => ?_) (fun c_12 => ?_)
    · skip
      obtain ⟨c, hc, rfl⟩ := isC_yes c_12
      refine lv_aload_n hx hb dX7_read_17 rfl (lv_at hl 0 rfl) ?_
      refine lv_iload_n hx hb dX7_read_18 rfl (lv_at hl 1 rfl) ?_
      refine kcV X hP hS (c_X7_isOpen l hI (by first | assumption | omega)) oJ v_X7_64 ⟨Nat.le_of_ble_eq_true rfl, Nat.le_of_ble_eq_true rfl, rfl, rfl⟩ rfl rfl (Nat.le_of_ble_eq_true rfl) hl.1 ⟨Nat.zero_le _, Nat.zero_le _⟩ dX7_read_19 (fun r_19 G_19 H locs hR hP hS => ?_)
      obtain ⟨rfl, hG_19⟩ := hR
      rw [hG_19] at hP
      clear hG_19
      first
        | refine kif_ne (tgt := 28) hx hb dX7_read_22 (by decide) (fun c_22 => ?_) (fun c_22 => ?_)
        | refine lv_if_ne (tgt := 28) hx hb dX7_read_22 (by decide) (fun c_22 => ?_) (fun c_22 => ?_)
      · skip
        refine lv_aload_n hx hb dX7_read_28 rfl (lv_at hl 0 rfl) ?_
        refine kcVv X hP hS (c_X7_records l hI hL hL4) oJ v_X7_51 ⟨Nat.le_of_ble_eq_true rfl, Nat.le_of_ble_eq_true rfl, rfl, rfl⟩ rfl rfl (Nat.le_of_ble_eq_true rfl) hl.1 ⟨Nat.zero_le _, Nat.zero_le _⟩ dX7_read_29 (fun G_29 H locs hR hP hS => ?_)
        subst hR
        refine lv_aload_n hx hb dX7_read_32 rfl (lv_at hl 0 rfl) ?_
        refine lv_iload_n hx hb dX7_read_33 rfl (lv_at hl 1 rfl) ?_
        refine lv_iconst (v := nI 4) hx hb dX7_read_34 (by decide) ?_
        refine kcV X hP hS (c_X7_ofR l hI (by first | assumption | omega)) oJ v_X7_32 ⟨Nat.le_of_ble_eq_true rfl, Nat.le_of_ble_eq_true rfl, rfl, rfl⟩ rfl rfl (Nat.le_of_ble_eq_true rfl) hl.1 ⟨Nat.zero_le _, Nat.zero_le _⟩ dX7_read_35 (fun r_35 G_35 H locs hR hP hS => ?_)
        obtain ⟨rfl, hG_35⟩ := hR
        rw [hG_35] at hP
        clear hG_35
        rw [recM_1]
        refine lv_iload_n hx hb dX7_read_38 rfl (lv_at hl 2 rfl) ?_
        refine kcS X hP hS (c_X7_has l hI) v_X7_111 ⟨Nat.le_of_ble_eq_true rfl, Nat.le_of_ble_eq_true rfl, rfl, rfl⟩ rfl rfl (Nat.le_of_ble_eq_true rfl) hl.1 ⟨Nat.zero_le _, Nat.zero_le _⟩ dX7_read_39 (fun r_39 G_39 H locs hR hP hS => ?_)
        obtain ⟨rfl, hG_39⟩ := hR
        rw [hG_39] at hP
        clear hG_39
        first
          | refine kif_eq (tgt := 55) hx hb dX7_read_42 (by decide) (fun c_42 => ?_) (fun c_42 => ?_)
          | refine lv_if_eq (tgt := 55) hx hb dX7_read_42 (by decide) (fun c_42 => ?_) (fun c_42 => ?_)
        · skip
          refine lv_aload_n hx hb dX7_read_55 rfl (lv_at hl 0 rfl) ?_
          refine lv_iload_n hx hb dX7_read_56 rfl (lv_at hl 1 rfl) ?_
          refine lv_iconst (v := nI 3) hx hb dX7_read_57 (by decide) ?_
          refine lv_aload_n hx hb dX7_read_58 rfl (lv_at hl 0 rfl) ?_
          refine lv_iload_n hx hb dX7_read_59 rfl (lv_at hl 1 rfl) ?_
          refine lv_iconst (v := nI 3) hx hb dX7_read_60 (by decide) ?_
          refine kcV X hP hS (c_X7_ofR l hI (by first | assumption | omega)) oJ v_X7_32 ⟨Nat.le_of_ble_eq_true rfl, Nat.le_of_ble_eq_true rfl, rfl, rfl⟩ rfl rfl (Nat.le_of_ble_eq_true rfl) hl.1 ⟨Nat.zero_le _, Nat.zero_le _⟩ dX7_read_61 (fun r_61 G_61 H locs hR hP hS => ?_)
          obtain ⟨rfl, hG_61⟩ := hR
          rw [hG_61] at hP
          clear hG_61
          rw [recM_1]
          refine lv_iconst (v := nI 1) hx hb dX7_read_64 (by decide) ?_
          refine lv_iload_n hx hb dX7_read_65 rfl (lv_at hl 2 rfl) ?_
          refine lv_ishl hx hb dX7_read_66 ?_
          refine lv_ior hx hb dX7_read_67 ?_
          refine kcVv X hP hS (c_X7_setsR l hI (by first | assumption | omega)) oJ v_X7_88 ⟨Nat.le_of_ble_eq_true rfl, Nat.le_of_ble_eq_true rfl, rfl, rfl⟩ rfl rfl (Nat.le_of_ble_eq_true rfl) hl.1 ⟨Nat.zero_le _, Nat.zero_le _⟩ dX7_read_68 (fun G_68 H locs hR hP hS => ?_)
          subst hR
          refine lv_aload_n hx hb dX7_read_71 rfl (lv_at hl 0 rfl) ?_
          refine lv_aload_n hx hb dX7_read_72 rfl (lv_at hl 0 rfl) ?_
          refine lv_iload_n hx hb dX7_read_73 rfl (lv_at hl 2 rfl) ?_
          refine lv_aload_n hx hb dX7_read_74 rfl (lv_at hl 0 rfl) ?_
          refine lv_iload_n hx hb dX7_read_75 rfl (lv_at hl 1 rfl) ?_
          refine lv_iconst (v := nI 0) hx hb dX7_read_76 (by decide) ?_
          refine kcV X hP hS (c_X7_ofR l hI (by first | assumption | omega)) oJ v_X7_32 ⟨Nat.le_of_ble_eq_true rfl, Nat.le_of_ble_eq_true rfl, rfl, rfl⟩ rfl rfl (Nat.le_of_ble_eq_true rfl) hl.1 ⟨Nat.zero_le _, Nat.zero_le _⟩ dX7_read_77 (fun r_77 G_77 H locs hR hP hS => ?_)
          obtain ⟨rfl, hG_77⟩ := hR
          rw [hG_77] at hP
          clear hG_77
          refine kcV X hP hS (c_X7_versionAt l hI (Wn := Wn) (by rw [gs_up, recM_1, upd_ne (by omega)]; exact hW) hW1 hW6) oJ v_X7_57 ⟨Nat.le_of_ble_eq_true rfl, Nat.le_of_ble_eq_true rfl, rfl, rfl⟩ rfl rfl (Nat.le_of_ble_eq_true rfl) hl.1 ⟨Nat.zero_le _, Nat.zero_le _⟩ dX7_read_80 (fun r_80 G_80 H locs hR hP hS => ?_)
          obtain ⟨rfl, hG_80⟩ := hR
          rw [hG_80] at hP
          clear hG_80
          have hav : vA (gs (recM G L) 1 (9 + 20 * r + 3) (G 1 (9 + 20 * r + 3) ||| nI 1 <<< (nI c &&& 31)) 1) Wn (nI c) (gs (recM G L) 1 (9 + 20 * r + 3) (G 1 (9 + 20 * r + 3) ||| nI 1 <<< (nI c &&& 31)) 1 (9 + 20 * r + 0)) < Wn := vA_lt hW1
          refine lv_iconst (v := nI 2) hx hb dX7_read_83 (by decide) ?_
          refine kcV X hP hS (c_X7_ofV l hI (by first | assumption | omega)) oJ v_X7_54 ⟨Nat.le_of_ble_eq_true rfl, Nat.le_of_ble_eq_true rfl, rfl, rfl⟩ rfl rfl (Nat.le_of_ble_eq_true rfl) hl.1 ⟨Nat.zero_le _, Nat.zero_le _⟩ dX7_read_84 (fun r_84 G_84 H locs hR hP hS => ?_)
          obtain ⟨rfl, hG_84⟩ := hR
          rw [hG_84] at hP
          clear hG_84
          exact hret _ _ _ _ _ _ (rdP_h hr hn4 (rdP_h hc (by omega) (by rw [if_pos c_22, if_neg c_42]; exact ⟨rfl, rfl⟩))) hP hS dX7_read_87
        · skip
          refine lv_aload_n hx hb dX7_read_45 rfl (lv_at hl 0 rfl) ?_
          refine lv_iload_n hx hb dX7_read_46 rfl (lv_at hl 1 rfl) ?_
          refine lv_bipush (v := nI 8) hx hb dX7_read_47 (by decide) ?_
          refine lv_iload_n hx hb dX7_read_49 rfl (lv_at hl 2 rfl) ?_
          first
            | refine kadd hx hb dX7_read_50 (by with_reducible rfl) (by with_reducible rfl) ?_
            | refine lv_iadd hx hb dX7_read_50 ?_
          refine kcV X hP hS (c_X7_ofR l hI (by first | assumption | omega)) oJ v_X7_32 ⟨Nat.le_of_ble_eq_true rfl, Nat.le_of_ble_eq_true rfl, rfl, rfl⟩ rfl rfl (Nat.le_of_ble_eq_true rfl) hl.1 ⟨Nat.zero_le _, Nat.zero_le _⟩ dX7_read_51 (fun r_51 G_51 H locs hR hP hS => ?_)
          obtain ⟨rfl, hG_51⟩ := hR
          rw [hG_51] at hP
          clear hG_51
          rw [recM_1]
          exact hret _ _ _ _ _ _ (rdP_h hr hn4 (rdP_h hc (by omega) (by rw [if_pos c_22, if_pos c_42]; exact ⟨rfl, rfl⟩))) hP hS dX7_read_54
      · skip
        refine lv_bipush (v := (-4)) hx hb dX7_read_25 (by decide) ?_
        exact hret _ _ _ _ _ _ (rdP_h hr hn4 (rdP_h hc (by omega) (by rw [if_neg c_22]; exact ⟨rfl, rfl⟩))) hP hS dX7_read_27
    · skip
      have hmc := isC_no c_12
      refine lv_iconst (v := (-1)) hx hb dX7_read_15 (by decide) ?_
      exact hret _ _ _ _ _ _ (rdP_h hr hn4 (rdP_m hmc ⟨rfl, rfl⟩)) hP hS dX7_read_16

set_option maxHeartbeats 4000000 in
set_option maxRecDepth 100000 in
theorem c_X7_write (l : Launch) {D : va_G} {τ : Nat → ClassId} {ad : Nat → Nat} (hI : kInj ad) {G : Nat → Nat → Int32} {n L : Nat} {x y z : Int32} (hn : G 1 2 = nI n) (hn4 : n ≤ 40) (hL : G 0 2 = nI L) (hL4 : L ≤ 4) : kM l yX7_write cX7_write 4 (some .int) { frames := 2, cells := 0, slots := 0, locals := 46 } D τ ad [.ref (ad 0), .int x, .int y, .int z] G (fun v G' => rdP n x (v = -1 ∧ G' = G) (fun r => rdP 12 y (v = -1 ∧ G' = G) (fun c => if nI 0 ≤ z ∧ z ≤ nI 9999 then (if G 1 (9 + 20 * r + 2) = 0 then v = sm (fun k => (G 1 (9 + 20 * r + 4) ||| bt c) >>> (nI k &&& 31) &&& nI 1) 12 ∧ G' = gs (gs (recM G L) 1 (9 + 20 * r + 4) (G 1 (9 + 20 * r + 4) ||| bt c)) 1 (9 + 20 * r + (8 + c)) z else v = -4 ∧ G' = G) else v = -2 ∧ G' = G))) := by
  refine kMet (own := RX7) (by decide) rfl (Nat.le_of_ble_eq_true rfl) ?_
  intro p9 e9 s9 m9 args9 below9 meth9 c9 Q9 X hx hb hP hS hret ls hl
  have hPs := hP
  have hl : lv_has ls 4 [(0, .ref (ad 0)), (1, .int x), (2, .int y), (3, .int z)] := hl
  refine lv_aload_n hx hb dX7_write_0 rfl (lv_at hl 0 rfl) ?_
  refine lv_iload_n hx hb dX7_write_1 rfl (lv_at hl 1 rfl) ?_
  refine kcV X hP hS (c_X7_isReader l hI) oJ v_X7_92 ⟨Nat.le_of_ble_eq_true rfl, Nat.le_of_ble_eq_true rfl, rfl, rfl⟩ rfl rfl (Nat.le_of_ble_eq_true rfl) hl.1 ⟨Nat.zero_le _, Nat.zero_le _⟩ dX7_write_2 (fun r_2 G_2 H locs hR hP hS => ?_)
  obtain ⟨rfl, hG_2⟩ := hR
  rw [hG_2] at hP
  clear hG_2
  first
    | refine kif_eq (tgt := 15) hx hb dX7_write_5 (by decide) (fun c_5 => ?_) (fun c_5 => ?_)
    | refine lv_if_eq (tgt := 15) hx hb dX7_write_5 (by decide) (fun c_5 => ?_) (fun c_5 => ?_)
  · skip
    have hms := isR_no hn4 (by rw [hn] at c_5; exact c_5)
    refine lv_iconst (v := (-1)) hx hb dX7_write_15 (by decide) ?_
    exact hret _ _ _ _ _ _ (rdP_m hms ⟨rfl, rfl⟩) hP hS dX7_write_16
  · skip
    obtain ⟨r, hr, rfl⟩ := isR_yes hn4 (by rw [hn] at c_5; exact c_5)
    refine lv_iload_n hx hb dX7_write_8 rfl (lv_at hl 2 rfl) ?_
    refine kcS X hP hS (c_X7_isCell l hI) v_X7_108 ⟨Nat.le_of_ble_eq_true rfl, Nat.le_of_ble_eq_true rfl, rfl, rfl⟩ rfl rfl (Nat.le_of_ble_eq_true rfl) hl.1 ⟨Nat.zero_le _, Nat.zero_le _⟩ dX7_write_9 (fun r_9 G_9 H locs hR hP hS => ?_)
    obtain ⟨rfl, hG_9⟩ := hR
    rw [hG_9] at hP
    clear hG_9
    first
      | refine kif_ne (tgt := 17) hx hb dX7_write_12 (by decide) (fun c_12 => ?_) (fun c_12 => ?_)
      | refine lv_if_ne (tgt := 17) hx hb dX7_write_12 (by decide) (fun c_12 => ?_) (fun c_12 => ?_)
    · skip
      obtain ⟨c, hc, rfl⟩ := isC_yes c_12
      refine lv_iload_n hx hb dX7_write_17 rfl (lv_at hl 3 rfl) ?_
      refine lv_iconst (v := nI 0) hx hb dX7_write_18 (by decide) ?_
      refine lv_sipush (v := nI 9999) hx hb dX7_write_19 (by decide) ?_
      refine kcS X hP hS (c_X7_isIn l hI) v_X7_28 ⟨Nat.le_of_ble_eq_true rfl, Nat.le_of_ble_eq_true rfl, rfl, rfl⟩ rfl rfl (Nat.le_of_ble_eq_true rfl) hl.1 ⟨Nat.zero_le _, Nat.zero_le _⟩ dX7_write_22 (fun r_22 G_22 H locs hR hP hS => ?_)
      obtain ⟨rfl, hG_22⟩ := hR
      rw [hG_22] at hP
      clear hG_22
      first
        | refine kif_ne (tgt := 31) hx hb dX7_write_25 (by decide) (fun c_25 => ?_) (fun c_25 => ?_)
        | refine lv_if_ne (tgt := 31) hx hb dX7_write_25 (by decide) (fun c_25 => ?_) (fun c_25 => ?_)
      · skip
        refine lv_aload_n hx hb dX7_write_31 rfl (lv_at hl 0 rfl) ?_
        refine lv_iload_n hx hb dX7_write_32 rfl (lv_at hl 1 rfl) ?_
        refine kcV X hP hS (c_X7_isOpen l hI (by first | assumption | omega)) oJ v_X7_64 ⟨Nat.le_of_ble_eq_true rfl, Nat.le_of_ble_eq_true rfl, rfl, rfl⟩ rfl rfl (Nat.le_of_ble_eq_true rfl) hl.1 ⟨Nat.zero_le _, Nat.zero_le _⟩ dX7_write_33 (fun r_33 G_33 H locs hR hP hS => ?_)
        obtain ⟨rfl, hG_33⟩ := hR
        rw [hG_33] at hP
        clear hG_33
        first
          | refine kif_ne (tgt := 42) hx hb dX7_write_36 (by decide) (fun c_36 => ?_) (fun c_36 => ?_)
          | refine lv_if_ne (tgt := 42) hx hb dX7_write_36 (by decide) (fun c_36 => ?_) (fun c_36 => ?_)
        · skip
          refine lv_aload_n hx hb dX7_write_42 rfl (lv_at hl 0 rfl) ?_
          refine kcVv X hP hS (c_X7_records l hI hL hL4) oJ v_X7_51 ⟨Nat.le_of_ble_eq_true rfl, Nat.le_of_ble_eq_true rfl, rfl, rfl⟩ rfl rfl (Nat.le_of_ble_eq_true rfl) hl.1 ⟨Nat.zero_le _, Nat.zero_le _⟩ dX7_write_43 (fun G_43 H locs hR hP hS => ?_)
          subst hR
          refine lv_aload_n hx hb dX7_write_46 rfl (lv_at hl 0 rfl) ?_
          refine lv_iload_n hx hb dX7_write_47 rfl (lv_at hl 1 rfl) ?_
          refine lv_iload_n hx hb dX7_write_48 rfl (lv_at hl 2 rfl) ?_
          refine lv_iload_n hx hb dX7_write_49 rfl (lv_at hl 3 rfl) ?_
          refine kcVv X hP hS (c_X7_writes l hI (by omega) hc) oJ v_X7_114 ⟨Nat.le_of_ble_eq_true rfl, Nat.le_of_ble_eq_true rfl, rfl, rfl⟩ rfl rfl (Nat.le_of_ble_eq_true rfl) hl.1 ⟨Nat.zero_le _, Nat.zero_le _⟩ dX7_write_50 (fun G_50 H locs hR hP hS => ?_)
          rw [recM_1] at hR
          subst hR
          refine lv_aload_n hx hb dX7_write_53 rfl (lv_at hl 0 rfl) ?_
          refine lv_iload_n hx hb dX7_write_54 rfl (lv_at hl 1 rfl) ?_
          refine lv_iconst (v := nI 4) hx hb dX7_write_55 (by decide) ?_
          refine kcV X hP hS (c_X7_ofR l hI (by first | assumption | omega)) oJ v_X7_32 ⟨Nat.le_of_ble_eq_true rfl, Nat.le_of_ble_eq_true rfl, rfl, rfl⟩ rfl rfl (Nat.le_of_ble_eq_true rfl) hl.1 ⟨Nat.zero_le _, Nat.zero_le _⟩ dX7_write_56 (fun r_56 G_56 H locs hR hP hS => ?_)
          obtain ⟨rfl, hG_56⟩ := hR
          rw [hG_56] at hP
          clear hG_56
          rw [gs_row (by omega), gs_up, upd_eq]
          refine kcS X hP hS (c_X7_ones l hI) v_X7_117 ⟨Nat.le_of_ble_eq_true rfl, Nat.le_of_ble_eq_true rfl, rfl, rfl⟩ rfl rfl (Nat.le_of_ble_eq_true rfl) hl.1 ⟨Nat.zero_le _, Nat.zero_le _⟩ dX7_write_59 (fun r_59 G_59 H locs hR hP hS => ?_)
          obtain ⟨rfl, hG_59⟩ := hR
          rw [hG_59] at hP
          clear hG_59
          exact hret _ _ _ _ _ _ (rdP_h hr hn4 (rdP_h hc (by omega) (by rw [if_pos c_25, if_pos c_36]; exact ⟨rfl, rfl⟩))) hP hS dX7_write_62
        · skip
          refine lv_bipush (v := (-4)) hx hb dX7_write_39 (by decide) ?_
          exact hret _ _ _ _ _ _ (rdP_h hr hn4 (rdP_h hc (by omega) (by rw [if_pos c_25, if_neg c_36]; exact ⟨rfl, rfl⟩))) hP hS dX7_write_41
      · skip
        refine lv_bipush (v := (-2)) hx hb dX7_write_28 (by decide) ?_
        exact hret _ _ _ _ _ _ (rdP_h hr hn4 (rdP_h hc (by omega) (by rw [if_neg c_25]; exact ⟨rfl, rfl⟩))) hP hS dX7_write_30
    · skip
      have hmc := isC_no c_12
      refine lv_iconst (v := (-1)) hx hb dX7_write_15 (by decide) ?_
      exact hret _ _ _ _ _ _ (rdP_h hr hn4 (rdP_m hmc ⟨rfl, rfl⟩)) hP hS dX7_write_16

set_option maxHeartbeats 4000000 in
set_option maxRecDepth 100000 in
theorem c_X7_committed (l : Launch) {D : va_G} {τ : Nat → ClassId} {ad : Nat → Nat} (hI : kInj ad) {G : Nat → Nat → Int32} {k : Nat} {x y : Int32} (hk : G 1 6 = nI k) (hk4 : k ≤ 40) : kM l yX7_committed cX7_committed 3 (some .int) { frames := 2, cells := 0, slots := 0, locals := 47 } D τ ad [.ref (ad 0), .int x, .int y] G (fun v G' => G' = G ∧ rdP k x (v = -1) (fun q => if nI 0 ≤ y ∧ y ≤ nI 5 then (if y = nI 5 then v = nI (cn (swM (G 1) q) q) else v = G 1 (1001 + 5 * q + y.toNatClampNeg)) else v = -2)) := by
  refine kMet (own := RX7) (by decide) rfl (Nat.le_of_ble_eq_true rfl) ?_
  intro p9 e9 s9 m9 args9 below9 meth9 c9 Q9 X hx hb hP hS hret ls hl
  have hPs := hP
  have hl : lv_has ls 3 [(0, .ref (ad 0)), (1, .int x), (2, .int y)] := hl
  refine lv_iload_n hx hb dX7_committed_0 rfl (lv_at hl 1 rfl) ?_
  refine lv_iconst (v := nI 0) hx hb dX7_committed_1 (by decide) ?_
  refine lv_aload_n hx hb dX7_committed_2 rfl (lv_at hl 0 rfl) ?_
  refine kget X hP oJ g_X7_7 rfl dX7_committed_3 ?_
  refine lv_bipush (v := nI 6) hx hb dX7_committed_6 (by decide) ?_
  refine kiald X hP aJ1 (by omega) dX7_committed_8 ?_
  rw [hk]
  refine lv_iconst (v := nI 1) hx hb dX7_committed_9 (by decide) ?_
  refine lv_isub hx hb dX7_committed_10 ?_
  refine kcS X hP hS (c_X7_isIn l hI) v_X7_28 ⟨Nat.le_of_ble_eq_true rfl, Nat.le_of_ble_eq_true rfl, rfl, rfl⟩ rfl rfl (Nat.le_of_ble_eq_true rfl) hl.1 ⟨Nat.zero_le _, Nat.zero_le _⟩ dX7_committed_11 (fun r_11 G_11 H locs hR hP hS => ?_)
  obtain ⟨rfl, hG_11⟩ := hR
  rw [hG_11] at hP
  clear hG_11
  first
    | refine kif_ne (tgt := 19) hx hb dX7_committed_14 (by decide) (fun c_14 => ?_) (fun c_14 => ?_)
    | refine lv_if_ne (tgt := 19) hx hb dX7_committed_14 (by decide) (fun c_14 => ?_) (fun c_14 => ?_)
  · skip
    obtain ⟨r, hr, rfl⟩ := isR_yes hk4 c_14
    refine lv_iload_n hx hb dX7_committed_19 rfl (lv_at hl 2 rfl) ?_
    refine lv_iconst (v := nI 0) hx hb dX7_committed_20 (by decide) ?_
    refine lv_iconst (v := nI 5) hx hb dX7_committed_21 (by decide) ?_
    refine kcS X hP hS (c_X7_isIn l hI) v_X7_28 ⟨Nat.le_of_ble_eq_true rfl, Nat.le_of_ble_eq_true rfl, rfl, rfl⟩ rfl rfl (Nat.le_of_ble_eq_true rfl) hl.1 ⟨Nat.zero_le _, Nat.zero_le _⟩ dX7_committed_22 (fun r_22 G_22 H locs hR hP hS => ?_)
    obtain ⟨rfl, hG_22⟩ := hR
    rw [hG_22] at hP
    clear hG_22
    first
      | refine kif_ne (tgt := 31) hx hb dX7_committed_25 (by decide) (fun c_25 => ?_) (fun c_25 => ?_)
      | refine lv_if_ne (tgt := 31) hx hb dX7_committed_25 (by decide) (fun c_25 => ?_) (fun c_25 => ?_)
    · skip
      refine lv_iload_n hx hb dX7_committed_31 rfl (lv_at hl 2 rfl) ?_
      refine lv_iconst (v := nI 5) hx hb dX7_committed_32 (by decide) ?_
      first
        | refine kic_ne (tgt := 44) hx hb dX7_committed_33 (by decide) (by with_reducible rfl) (by with_reducible rfl) (by omega) (by omega) (fun c_33 => ?_) (fun c_33 => ?_)
        | refine lv_icmp_ne (tgt := 44) hx hb dX7_committed_33 (by decide) (fun c_33 => ?_) (fun c_33 => ?_)
      · skip
        obtain ⟨w, hw1, rfl⟩ := isR_yes (n := 6) (by omega) (by rw [pk_sub (by omega)]; exact c_25)
        have hw2 : w < 5 := by
          rcases Nat.lt_or_ge w 5 with q | q
          · exact q
          · exact absurd (by rw [show w = 5 by omega]) c_33
        refine lv_aload_n hx hb dX7_committed_44 rfl (lv_at hl 0 rfl) ?_
        refine lv_iload_n hx hb dX7_committed_45 rfl (lv_at hl 1 rfl) ?_
        refine lv_iload_n hx hb dX7_committed_46 rfl (lv_at hl 2 rfl) ?_
        refine kcV X hP hS (c_X7_ofC l hI (by first | assumption | omega)) oJ v_X7_120 ⟨Nat.le_of_ble_eq_true rfl, Nat.le_of_ble_eq_true rfl, rfl, rfl⟩ rfl rfl (Nat.le_of_ble_eq_true rfl) hl.1 ⟨Nat.zero_le _, Nat.zero_le _⟩ dX7_committed_47 (fun r_47 G_47 H locs hR hP hS => ?_)
        obtain ⟨rfl, hG_47⟩ := hR
        rw [hG_47] at hP
        clear hG_47
        exact hret _ _ _ _ _ _ (⟨rfl, rdP_h hr hk4 (by rw [if_pos c_25, if_neg c_33, nI_clamp (by omega)])⟩) hP hS dX7_committed_50
      · skip
        refine lv_aload_n hx hb dX7_committed_36 rfl (lv_at hl 0 rfl) ?_
        refine lv_iload_n hx hb dX7_committed_37 rfl (lv_at hl 1 rfl) ?_
        refine kcV X hP hS (c_X7_skews l hI (by omega)) oJ v_X7_127 ⟨Nat.le_of_ble_eq_true rfl, Nat.le_of_ble_eq_true rfl, rfl, rfl⟩ rfl rfl (Nat.le_of_ble_eq_true rfl) hl.1 ⟨Nat.zero_le _, Nat.zero_le _⟩ dX7_committed_38 (fun r_38 G_38 H locs hR hP hS => ?_)
        obtain ⟨rfl, hG_38⟩ := hR
        rw [hG_38] at hP
        clear hG_38
        refine lv_goto (tgt := 50) hx hb dX7_committed_41 (by decide) ?_
        exact hret _ _ _ _ _ _ (⟨rfl, rdP_h hr hk4 (by rw [if_pos c_25, if_pos c_33])⟩) hP hS dX7_committed_50
    · skip
      refine lv_bipush (v := (-2)) hx hb dX7_committed_28 (by decide) ?_
      exact hret _ _ _ _ _ _ (⟨rfl, rdP_h hr hk4 (by rw [if_neg c_25])⟩) hP hS dX7_committed_30
  · skip
    have hms := isR_no hk4 c_14
    refine lv_iconst (v := (-1)) hx hb dX7_committed_17 (by decide) ?_
    exact hret _ _ _ _ _ _ (⟨rfl, rdP_m hms rfl⟩) hP hS dX7_committed_18
