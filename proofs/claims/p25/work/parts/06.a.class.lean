
/-- what the history's record does to the state now -/
def rcR (G G' : Nat → Nat → Int32) (pi : Nat → Nat) (L n k : Nat) : Prop := G' 8 1 = nI (rotL L + 1) ∧ (∀ t, t < 4 → G' 9 t = nI (rotP pi L t)) ∧ (∀ q, q ≠ 8 → q ≠ 9 → (q < sB (rotP pi L (rotL L)) ∨ sB (rotP pi L (rotL L)) + 161 ≤ q) → G' q = G q) ∧ CB G G' (rotP pi L (rotL L)) 0 n k
/-- what bringing back the last recorded state does -/
def bbR (G G' : Nat → Nat → Int32) (pi : Nat → Nat) (L n k : Nat) : Prop := G' 8 1 = nI (L - 1) ∧ (∀ q, q ≠ 8 → (q < sB 0 ∨ sB 0 + 161 ≤ q) → G' q = G q) ∧ CB G G' 0 (pi (L - 1)) n k
set_option maxHeartbeats 4000000 in
set_option maxRecDepth 100000 in
theorem c_X6_isCell (l : Launch) {D : va_G} {τ : Nat → ClassId} {ad : Nat → Nat} (hI : kInj ad) {G : Nat → Nat → Int32} {x : Int32} : kM l yX6_isCell cX6_isCell 1 (some .boolean) { frames := 0, cells := 0, slots := 0, locals := 0 } D τ ad [.int x] G (fun v G' => v = (if nI 0 ≤ x ∧ x < nI 12 then 1 else 0) ∧ G' = G) := by
  refine kMetZ (own := RX6) (by decide) rfl (Nat.le_of_ble_eq_true rfl) ?_
  intro p9 e9 s9 m9 args9 below9 meth9 c9 Q9 X hx hb hP hS hret ls hl
  have hPs := hP
  have hl : lv_has ls 1 [(0, .int x)] := hl
  refine lv_iload_n hx hb dX6_isCell_0 rfl (lv_at hl 0 rfl) ?_
  refine lv_if_lt (tgt := 14) hx hb dX6_isCell_1 (by decide) (fun c_1 => ?_) (fun c_1 => ?_)
  · skip
    refine lv_iconst (v := nI 0) hx hb dX6_isCell_14 (by decide) ?_
    exact hret _ _ _ _ _ _ (by decide) (by refine ⟨?_, rfl⟩; first | exact (if_pos ⟨Int32.not_lt.mp c_1, Int32.not_le.mp c_7⟩).symm | exact (if_neg (fun z => Int32.not_lt.mpr z.1 c_1)).symm | exact (if_neg (fun z => Int32.not_le.mpr z.2 c_7)).symm) hP hS dX6_isCell_15
  · skip
    refine lv_iload_n hx hb dX6_isCell_4 rfl (lv_at hl 0 rfl) ?_
    refine lv_bipush (v := nI 12) hx hb dX6_isCell_5 (by decide) ?_
    first
      | refine kic_ge (tgt := 14) hx hb dX6_isCell_7 (by decide) (by with_reducible rfl) (by with_reducible rfl) (by omega) (by omega) (fun c_7 => ?_) (fun c_7 => ?_)
      | refine lv_icmp_ge (tgt := 14) hx hb dX6_isCell_7 (by decide) (fun c_7 => ?_) (fun c_7 => ?_)
    · skip
      refine lv_iconst (v := nI 0) hx hb dX6_isCell_14 (by decide) ?_
      exact hret _ _ _ _ _ _ (by decide) (by refine ⟨?_, rfl⟩; first | exact (if_pos ⟨Int32.not_lt.mp c_1, Int32.not_le.mp c_7⟩).symm | exact (if_neg (fun z => Int32.not_lt.mpr z.1 c_1)).symm | exact (if_neg (fun z => Int32.not_le.mpr z.2 c_7)).symm) hP hS dX6_isCell_15
    · skip
      refine lv_iconst (v := nI 1) hx hb dX6_isCell_10 (by decide) ?_
      refine lv_goto (tgt := 15) hx hb dX6_isCell_11 (by decide) ?_
      exact hret _ _ _ _ _ _ (by decide) (by refine ⟨?_, rfl⟩; first | exact (if_pos ⟨Int32.not_lt.mp c_1, Int32.not_le.mp c_7⟩).symm | exact (if_neg (fun z => Int32.not_lt.mpr z.1 c_1)).symm | exact (if_neg (fun z => Int32.not_le.mpr z.2 c_7)).symm) hP hS dX6_isCell_15

set_option maxHeartbeats 4000000 in
set_option maxRecDepth 100000 in
theorem c_X6_undo (l : Launch) {D : va_G} {τ : Nat → ClassId} {ad : Nat → Nat} (hI : kInj ad) {G : Nat → Nat → Int32} {n k L : Nat} {pi : Nat → Nat} (hL : G 8 1 = nI L) (hL4 : L ≤ 4) (hpi : ∀ t, t < 4 → G 9 t = nI (pi t) ∧ pi t < 7) (hne : ∀ t, t < 4 → pi t ≠ 0) (hn : 1 ≤ L → G (sB (pi (L - 1))) 6 = nI n) (hn4 : n ≤ 40) (hk : 1 ≤ L → G (sB (pi (L - 1))) 7 = nI k) (hk4 : k ≤ 40) (hz : 1 ≤ L → ∀ r, r < n → G (rN (pi (L - 1)) r) 8 = 0 ∨ G (rN (pi (L - 1)) r) 8 = 1) (hy : 1 ≤ L → G (sB (pi (L - 1))) 9 = 0 ∨ G (sB (pi (L - 1))) 9 = 1) : kM l yX6_undo cX6_undo 1 (some .int) { frames := 4, cells := 0, slots := 0, locals := 104 } D τ ad [.ref (ad 7)] G (fun v G' => if L = 0 then v = -5 ∧ G' = G else v = nI (L - 1) ∧ bbR G G' pi L n k) := by
  refine kMet (own := RX6) (by decide) rfl (Nat.le_of_ble_eq_true rfl) ?_
  intro p9 e9 s9 m9 args9 below9 meth9 c9 Q9 X hx hb hP hS hret ls hl
  have hPs := hP
  have hl : lv_has ls 1 [(0, .ref (ad 7))] := hl
  refine lv_aload_n hx hb dX6_undo_0 rfl (lv_at hl 0 rfl) ?_
  refine kget X hP oX g_X6_25 rfl dX6_undo_1 ?_
  refine kget X hP oH g_X6_165 (congrArg (fun z => some (Value.int z)) hL) dX6_undo_4 ?_
  first
    | refine kif_ne (tgt := 13) hx hb dX6_undo_7 (by decide) (fun c_7 => ?_) (fun c_7 => ?_)
    | refine lv_if_ne (tgt := 13) hx hb dX6_undo_7 (by decide) (fun c_7 => ?_) (fun c_7 => ?_)
  · skip
    have h0 : ¬ L = 0 := fun q => c_7 (by rw [q]; rfl)
    have h1 : 1 ≤ L := by omega
    refine lv_aload_n hx hb dX6_undo_13 rfl (lv_at hl 0 rfl) ?_
    refine kget X hP oX g_X6_25 rfl dX6_undo_14 ?_
    refine lv_aload_n hx hb dX6_undo_17 rfl (lv_at hl 0 rfl) ?_
    refine kget X hP oX g_X6_12 rfl dX6_undo_18 ?_
    refine kcVv X hP hS (c_X2_bringBack l hI (j := 0) (n := n) (k := k) (L := L) (pi := pi) (by omega) hL h1 hL4 hpi (fun z => hne (L - 1) (by omega) z.symm) (hn h1) hn4 (hk h1) hk4 (hz h1) (hy h1)) oH v_X6_166 ⟨Nat.le_of_ble_eq_true rfl, Nat.le_of_ble_eq_true rfl, rfl, rfl⟩ rfl rfl (Nat.le_of_ble_eq_true rfl) hl.1 ⟨Nat.zero_le _, Nat.zero_le _⟩ dX6_undo_21 (fun G_21 H locs hR hP hS => ?_)
    have h_21 := hR
    refine lv_aload_n hx hb dX6_undo_24 rfl (lv_at hl 0 rfl) ?_
    refine kget X hP oX g_X6_25 rfl dX6_undo_25 ?_
    refine kget X hP oH g_X6_165 (congrArg (fun z => some (Value.int z)) h_21.1) dX6_undo_28 ?_
    exact hret _ _ _ _ _ _ (by rw [if_neg h0]; exact ⟨rfl, h_21⟩) hP hS dX6_undo_31
  · skip
    have h0 : L = 0 := by
      rcases Nat.eq_zero_or_pos L with q | q
      · exact q
      · exact absurd c_7 (nI_ne0 q (by omega))
    refine lv_bipush (v := (-5)) hx hb dX6_undo_10 (by decide) ?_
    exact hret _ _ _ _ _ _ (by rw [if_pos h0]; exact ⟨rfl, rfl⟩) hP hS dX6_undo_12

set_option maxHeartbeats 4000000 in
set_option maxRecDepth 100000 in
theorem c_X6_setRent (l : Launch) {D : va_G} {τ : Nat → ClassId} {ad : Nat → Nat} (hI : kInj ad) {G : Nat → Nat → Int32} {n k L : Nat} {y : Int32} {pi : Nat → Nat} (hL : G 8 1 = nI L) (hL4 : L ≤ 4) (hpi : ∀ t, t < 4 → G 9 t = nI (pi t) ∧ pi t < 7) (hne : ∀ t, t < 4 → pi t ≠ 0) (hn : G (sB 0) 6 = nI n) (hn4 : n ≤ 40) (hk : G (sB 0) 7 = nI k) (hk4 : k ≤ 40) (hz : ∀ r, r < n → G (rN 0 r) 8 = 0 ∨ G (rN 0 r) 8 = 1) (hy : G (sB 0) 9 = 0 ∨ G (sB 0) 9 = 1) : kM l yX6_setRent cX6_setRent 3 (some .int) { frames := 4, cells := 0, slots := 0, locals := 104 } D τ ad [.ref (ad 7), .int y] G (fun v G' => if nI 0 ≤ y ∧ y ≤ nI 99 then (if y = G (sB 0) 5 then v = -5 ∧ G' = G else v = G (sB 0) 5 ∧ ∃ Gr, rcR G Gr pi L n k ∧ G' = gs Gr (sB 0) 5 y) else v = -2 ∧ G' = G) := by
  refine kMet (own := RX6) (by decide) rfl (Nat.le_of_ble_eq_true rfl) ?_
  intro p9 e9 s9 m9 args9 below9 meth9 c9 Q9 X hx hb hP hS hret ls hl
  have hPs := hP
  have hl : lv_has ls 3 [(0, .ref (ad 7)), (1, .int y)] := hl
  refine lv_iload_n hx hb dX6_setRent_0 rfl (lv_at hl 1 rfl) ?_
  refine lv_if_lt (tgt := 10) hx hb dX6_setRent_1 (by decide) (fun c_1 => ?_) (fun c_1 => ?_)
  · skip
    refine lv_bipush (v := (-2)) hx hb dX6_setRent_10 (by decide) ?_
    exact hret _ _ _ _ _ _ (by rw [if_neg (fun z => Int32.not_lt.mpr z.1 c_1)]; exact ⟨rfl, rfl⟩) hP hS dX6_setRent_12
  · skip
    refine lv_iload_n hx hb dX6_setRent_4 rfl (lv_at hl 1 rfl) ?_
    refine lv_bipush (v := nI 99) hx hb dX6_setRent_5 (by decide) ?_
    first
      | refine kic_le (tgt := 13) hx hb dX6_setRent_7 (by decide) (by with_reducible rfl) (by with_reducible rfl) (by omega) (by omega) (fun c_7 => ?_) (fun c_7 => ?_)
      | refine lv_icmp_le (tgt := 13) hx hb dX6_setRent_7 (by decide) (fun c_7 => ?_) (fun c_7 => ?_)
    · skip
      refine lv_aload_n hx hb dX6_setRent_13 rfl (lv_at hl 0 rfl) ?_
      refine kget X hP oX g_X6_12 rfl dX6_setRent_14 ?_
      refine kget X hP (oS (j := 0) (by omega)) g_X6_86 rfl dX6_setRent_17 ?_
      refine kist hx hb dX6_setRent_20 rfl hl (by decide) (kp_2_2 rfl) (fun ls hl => ?_)
      refine lv_iload_n hx hb dX6_setRent_21 rfl (lv_at hl 1 rfl) ?_
      refine lv_iload_n hx hb dX6_setRent_22 rfl (lv_at hl 2 rfl) ?_
      first
        | refine kic_ne (tgt := 29) hx hb dX6_setRent_23 (by decide) (by with_reducible rfl) (by with_reducible rfl) (by omega) (by omega) (fun c_23 => ?_) (fun c_23 => ?_)
        | refine lv_icmp_ne (tgt := 29) hx hb dX6_setRent_23 (by decide) (fun c_23 => ?_) (fun c_23 => ?_)
      · skip
        refine lv_aload_n hx hb dX6_setRent_29 rfl (lv_at hl 0 rfl) ?_
        refine kget X hP oX g_X6_25 rfl dX6_setRent_30 ?_
        refine lv_aload_n hx hb dX6_setRent_33 rfl (lv_at hl 0 rfl) ?_
        refine kget X hP oX g_X6_12 rfl dX6_setRent_34 ?_
        refine kcVv X hP hS (c_X2_record l hI (j := 0) (n := n) (k := k) (L := L) (pi := pi) (by omega) hL hL4 hpi hne hn hn4 hk hk4 hz hy) oH v_X6_44 ⟨Nat.le_of_ble_eq_true rfl, Nat.le_of_ble_eq_true rfl, rfl, rfl⟩ rfl rfl (Nat.le_of_ble_eq_true rfl) hl.1 ⟨Nat.zero_le _, Nat.zero_le _⟩ dX6_setRent_37 (fun G_37 H locs hR hP hS => ?_)
        have h_37 := hR
        refine lv_aload_n hx hb dX6_setRent_40 rfl (lv_at hl 0 rfl) ?_
        refine kget X hP oX g_X6_12 rfl dX6_setRent_41 ?_
        refine lv_iload_n hx hb dX6_setRent_44 rfl (lv_at hl 1 rfl) ?_
        refine kput X hI hP hS (oS (j := 0) (by omega)) g_X6_86 (fun _ => rfl) rfl (fun _ => Nat.le_of_ble_eq_true rfl) rfl rfl dX6_setRent_45 (fun H locs hP hS => ?_)
        refine lv_iload_n hx hb dX6_setRent_48 rfl (lv_at hl 2 rfl) ?_
        exact hret _ _ _ _ _ _ (by rw [if_pos ⟨Int32.not_lt.mp c_1, c_7⟩, if_neg c_23]; exact ⟨rfl, _, h_37, rfl⟩) hP hS dX6_setRent_49
      · skip
        refine lv_bipush (v := (-5)) hx hb dX6_setRent_26 (by decide) ?_
        exact hret _ _ _ _ _ _ (by rw [if_pos ⟨Int32.not_lt.mp c_1, c_7⟩, if_pos c_23]; exact ⟨rfl, rfl⟩) hP hS dX6_setRent_28
    · skip
      refine lv_bipush (v := (-2)) hx hb dX6_setRent_10 (by decide) ?_
      exact hret _ _ _ _ _ _ (by rw [if_neg (fun z => absurd z.2 c_7)]; exact ⟨rfl, rfl⟩) hP hS dX6_setRent_12
