theorem pf_step {mo : Nat → Int32} {x : Int32} {i P : Nat} (hi : i < P) (h : ¬ mo i ≤ x) : pf mo x i (P - i) = pf mo x (i + 1) (P - (i + 1)) := by
  rw [show P - i = (P - (i + 1)) + 1 by omega, pf, if_neg h]
theorem pf_hit {mo : Nat → Int32} {x : Int32} {i P : Nat} (hi : i < P) (h : mo i ≤ x) : pf mo x i (P - i) = nI i := by
  rw [show P - i = (P - (i + 1)) + 1 by omega, pf, if_pos h]
theorem pf_end {mo : Nat → Int32} {x : Int32} {i P : Nat} (hi : P ≤ i) : pf mo x i (P - i) = -1 := by
  rw [show P - i = 0 by omega, pf]
set_option maxHeartbeats 4000000 in
set_option maxRecDepth 100000 in
theorem c_X3_isOpen (l : Launch) {D : va_G} {τ : Nat → ClassId} {ad : Nat → Nat} (hI : kInj ad) {G : Nat → Nat → Int32} {j r : Nat} (hj : j < 7) (hr : r < 40) : kM l yX3_isOpen cX3_isOpen 1 (some .boolean) { frames := 0, cells := 0, slots := 0, locals := 0 } D τ ad [.ref (ad (rN j r))] G (fun v G' => v = (if G (rN j r) 1 = 0 then 1 else 0) ∧ G' = G) := by
  refine kMetZ (own := RX3) (by decide) rfl (Nat.le_of_ble_eq_true rfl) ?_
  intro p9 e9 s9 m9 args9 below9 meth9 c9 Q9 X hx hb hP hS hret ls hl
  have hPs := hP
  have hl : lv_has ls 1 [(0, .ref (ad (rN j r)))] := hl
  refine lv_aload_n hx hb dX3_isOpen_0 rfl (lv_at hl 0 rfl) ?_
  refine kget X hP (oR (by first | assumption | omega) (by first | assumption | omega)) g_X3_15 rfl dX3_isOpen_1 ?_
  first
    | refine kif_ne (tgt := 11) hx hb dX3_isOpen_4 (by decide) (fun c_4 => ?_) (fun c_4 => ?_)
    | refine lv_if_ne (tgt := 11) hx hb dX3_isOpen_4 (by decide) (fun c_4 => ?_) (fun c_4 => ?_)
  · skip
    refine lv_iconst (v := nI 0) hx hb dX3_isOpen_11 (by decide) ?_
    exact hret _ _ _ _ _ _ (by decide) (by refine ⟨?_, rfl⟩; first | exact (if_pos ‹_›).symm | exact (if_neg ‹_›).symm) hP hS dX3_isOpen_12
  · skip
    refine lv_iconst (v := nI 1) hx hb dX3_isOpen_7 (by decide) ?_
    refine lv_goto (tgt := 12) hx hb dX3_isOpen_8 (by decide) ?_
    exact hret _ _ _ _ _ _ (by decide) (by refine ⟨?_, rfl⟩; first | exact (if_pos ‹_›).symm | exact (if_neg ‹_›).symm) hP hS dX3_isOpen_12

set_option maxHeartbeats 4000000 in
set_option maxRecDepth 100000 in
theorem c_X3_isOpenWidow (l : Launch) {D : va_G} {τ : Nat → ClassId} {ad : Nat → Nat} (hI : kInj ad) {G : Nat → Nat → Int32} {j r : Nat} (hj : j < 7) (hr : r < 40) : kM l yX3_isOpenWidow cX3_isOpenWidow 1 (some .boolean) { frames := 0, cells := 0, slots := 0, locals := 0 } D τ ad [.ref (ad (rN j r))] G (fun v G' => v = (if G (rN j r) 1 = 0 ∧ 0 < G (rN j r) 6 then 1 else 0) ∧ G' = G) := by
  refine kMetZ (own := RX3) (by decide) rfl (Nat.le_of_ble_eq_true rfl) ?_
  intro p9 e9 s9 m9 args9 below9 meth9 c9 Q9 X hx hb hP hS hret ls hl
  have hPs := hP
  have hl : lv_has ls 1 [(0, .ref (ad (rN j r)))] := hl
  refine lv_aload_n hx hb dX3_isOpenWidow_0 rfl (lv_at hl 0 rfl) ?_
  refine kget X hP (oR (by first | assumption | omega) (by first | assumption | omega)) g_X3_15 rfl dX3_isOpenWidow_1 ?_
  first
    | refine kif_ne (tgt := 18) hx hb dX3_isOpenWidow_4 (by decide) (fun c_4 => ?_) (fun c_4 => ?_)
    | refine lv_if_ne (tgt := 18) hx hb dX3_isOpenWidow_4 (by decide) (fun c_4 => ?_) (fun c_4 => ?_)
  · skip
    refine lv_iconst (v := nI 0) hx hb dX3_isOpenWidow_18 (by decide) ?_
    exact hret _ _ _ _ _ _ (by decide) (by refine ⟨?_, rfl⟩; first | exact (if_pos ⟨c_4, c_11⟩).symm | exact (if_neg (fun z => c_4 z.1)).symm | exact (if_neg (fun z => Int32.not_le.mpr z.2 c_11)).symm) hP hS dX3_isOpenWidow_19
  · skip
    refine lv_aload_n hx hb dX3_isOpenWidow_7 rfl (lv_at hl 0 rfl) ?_
    refine kget X hP (oR (by first | assumption | omega) (by first | assumption | omega)) g_X3_31 rfl dX3_isOpenWidow_8 ?_
    refine lv_if_le (tgt := 18) hx hb dX3_isOpenWidow_11 (by decide) (fun c_11 => ?_) (fun c_11 => ?_)
    · skip
      refine lv_iconst (v := nI 0) hx hb dX3_isOpenWidow_18 (by decide) ?_
      exact hret _ _ _ _ _ _ (by decide) (by refine ⟨?_, rfl⟩; first | exact (if_pos ⟨c_4, c_11⟩).symm | exact (if_neg (fun z => c_4 z.1)).symm | exact (if_neg (fun z => Int32.not_le.mpr z.2 c_11)).symm) hP hS dX3_isOpenWidow_19
    · skip
      have c_11 := Int32.not_le.mp c_11
      refine lv_iconst (v := nI 1) hx hb dX3_isOpenWidow_14 (by decide) ?_
      refine lv_goto (tgt := 19) hx hb dX3_isOpenWidow_15 (by decide) ?_
      exact hret _ _ _ _ _ _ (by decide) (by refine ⟨?_, rfl⟩; first | exact (if_pos ⟨c_4, c_11⟩).symm | exact (if_neg (fun z => c_4 z.1)).symm | exact (if_neg (fun z => Int32.not_le.mpr z.2 c_11)).symm) hP hS dX3_isOpenWidow_19

set_option maxHeartbeats 4000000 in
set_option maxRecDepth 100000 in
theorem c_X3_paysRent (l : Launch) {D : va_G} {τ : Nat → ClassId} {ad : Nat → Nat} (hI : kInj ad) {G : Nat → Nat → Int32} {j r : Nat} (hj : j < 7) (hr : r < 40) : kM l yX3_paysRent cX3_paysRent 1 (some .boolean) { frames := 0, cells := 0, slots := 0, locals := 0 } D τ ad [.ref (ad (rN j r))] G (fun v G' => v = (if G (rN j r) 1 = 0 ∧ G (rN j r) 6 = 0 then 1 else 0) ∧ G' = G) := by
  refine kMetZ (own := RX3) (by decide) rfl (Nat.le_of_ble_eq_true rfl) ?_
  intro p9 e9 s9 m9 args9 below9 meth9 c9 Q9 X hx hb hP hS hret ls hl
  have hPs := hP
  have hl : lv_has ls 1 [(0, .ref (ad (rN j r)))] := hl
  refine lv_aload_n hx hb dX3_paysRent_0 rfl (lv_at hl 0 rfl) ?_
  refine kget X hP (oR (by first | assumption | omega) (by first | assumption | omega)) g_X3_15 rfl dX3_paysRent_1 ?_
  first
    | refine kif_ne (tgt := 18) hx hb dX3_paysRent_4 (by decide) (fun c_4 => ?_) (fun c_4 => ?_)
    | refine lv_if_ne (tgt := 18) hx hb dX3_paysRent_4 (by decide) (fun c_4 => ?_) (fun c_4 => ?_)
  · skip
    refine lv_iconst (v := nI 0) hx hb dX3_paysRent_18 (by decide) ?_
    exact hret _ _ _ _ _ _ (by decide) (by refine ⟨?_, rfl⟩; first | exact (if_pos ⟨c_4, c_11⟩).symm | exact (if_neg (fun z => c_4 z.1)).symm | exact (if_neg (fun z => c_11 z.2)).symm) hP hS dX3_paysRent_19
  · skip
    refine lv_aload_n hx hb dX3_paysRent_7 rfl (lv_at hl 0 rfl) ?_
    refine kget X hP (oR (by first | assumption | omega) (by first | assumption | omega)) g_X3_31 rfl dX3_paysRent_8 ?_
    first
      | refine kif_ne (tgt := 18) hx hb dX3_paysRent_11 (by decide) (fun c_11 => ?_) (fun c_11 => ?_)
      | refine lv_if_ne (tgt := 18) hx hb dX3_paysRent_11 (by decide) (fun c_11 => ?_) (fun c_11 => ?_)
    · skip
      refine lv_iconst (v := nI 0) hx hb dX3_paysRent_18 (by decide) ?_
      exact hret _ _ _ _ _ _ (by decide) (by refine ⟨?_, rfl⟩; first | exact (if_pos ⟨c_4, c_11⟩).symm | exact (if_neg (fun z => c_4 z.1)).symm | exact (if_neg (fun z => c_11 z.2)).symm) hP hS dX3_paysRent_19
    · skip
      refine lv_iconst (v := nI 1) hx hb dX3_paysRent_14 (by decide) ?_
      refine lv_goto (tgt := 19) hx hb dX3_paysRent_15 (by decide) ?_
      exact hret _ _ _ _ _ _ (by decide) (by refine ⟨?_, rfl⟩; first | exact (if_pos ⟨c_4, c_11⟩).symm | exact (if_neg (fun z => c_4 z.1)).symm | exact (if_neg (fun z => c_11 z.2)).symm) hP hS dX3_paysRent_19

set_option maxHeartbeats 4000000 in
set_option maxRecDepth 100000 in
theorem c_X3_hasWrite (l : Launch) {D : va_G} {τ : Nat → ClassId} {ad : Nat → Nat} (hI : kInj ad) {G : Nat → Nat → Int32} {j r k : Nat} (hj : j < 7) (hr : r < 40) : kM l yX3_hasWrite cX3_hasWrite 2 (some .boolean) { frames := 0, cells := 0, slots := 0, locals := 0 } D τ ad [.ref (ad (rN j r)), .int (nI k)] G (fun v G' => v = (if hw (G (rN j r) 5) k then 1 else 0) ∧ G' = G) := by
  refine kMetZ (own := RX3) (by decide) rfl (Nat.le_of_ble_eq_true rfl) ?_
  intro p9 e9 s9 m9 args9 below9 meth9 c9 Q9 X hx hb hP hS hret ls hl
  have hPs := hP
  have hl : lv_has ls 2 [(0, .ref (ad (rN j r))), (1, .int (nI k))] := hl
  refine lv_aload_n hx hb dX3_hasWrite_0 rfl (lv_at hl 0 rfl) ?_
  refine kget X hP (oR (by first | assumption | omega) (by first | assumption | omega)) g_X3_28 rfl dX3_hasWrite_1 ?_
  refine lv_iload_n hx hb dX3_hasWrite_4 rfl (lv_at hl 1 rfl) ?_
  refine lv_ishr hx hb dX3_hasWrite_5 ?_
  refine lv_iconst (v := nI 1) hx hb dX3_hasWrite_6 (by decide) ?_
  refine lv_iand hx hb dX3_hasWrite_7 ?_
  first
    | refine kif_eq (tgt := 15) hx hb dX3_hasWrite_8 (by decide) (fun c_8 => ?_) (fun c_8 => ?_)
    | refine lv_if_eq (tgt := 15) hx hb dX3_hasWrite_8 (by decide) (fun c_8 => ?_) (fun c_8 => ?_)
  · skip
    refine lv_iconst (v := nI 0) hx hb dX3_hasWrite_15 (by decide) ?_
    exact hret _ _ _ _ _ _ (by decide) (by refine ⟨?_, rfl⟩; first | exact (if_pos c_8).symm | exact (if_neg (fun z => z c_8)).symm) hP hS dX3_hasWrite_16
  · skip
    refine lv_iconst (v := nI 1) hx hb dX3_hasWrite_11 (by decide) ?_
    refine lv_goto (tgt := 16) hx hb dX3_hasWrite_12 (by decide) ?_
    exact hret _ _ _ _ _ _ (by decide) (by refine ⟨?_, rfl⟩; first | exact (if_pos c_8).symm | exact (if_neg (fun z => z c_8)).symm) hP hS dX3_hasWrite_16

set_option maxHeartbeats 4000000 in
set_option maxRecDepth 100000 in
theorem c_X3_putWrite (l : Launch) {D : va_G} {τ : Nat → ClassId} {ad : Nat → Nat} (hI : kInj ad) {G : Nat → Nat → Int32} {j r k : Nat} {x : Int32} (hj : j < 7) (hr : r < 40) (hk : k < 12) : kMv l yX3_putWrite cX3_putWrite 3 { frames := 0, cells := 0, slots := 0, locals := 0 } D τ ad [.ref (ad (rN j r)), .int (nI k), .int x] G (fun G' => G' = gs (gs G (rW j r) k x) (rN j r) 5 (G (rN j r) 5 ||| bt k)) := by
  refine kMetV (own := RX3) (by decide) rfl (Nat.le_of_ble_eq_true rfl) ?_
  intro p9 e9 s9 m9 args9 below9 meth9 c9 Q9 X hx hb hP hS hret ls hl
  have hPs := hP
  have hl : lv_has ls 3 [(0, .ref (ad (rN j r))), (1, .int (nI k)), (2, .int x)] := hl
  refine lv_aload_n hx hb dX3_putWrite_0 rfl (lv_at hl 0 rfl) ?_
  refine kget X hP (oR (by first | assumption | omega) (by first | assumption | omega)) g_X3_9 rfl dX3_putWrite_1 ?_
  refine lv_iload_n hx hb dX3_putWrite_4 rfl (lv_at hl 1 rfl) ?_
  refine lv_iload_n hx hb dX3_putWrite_5 rfl (lv_at hl 2 rfl) ?_
  refine kiast X hI hP hS (aW (by first | assumption | omega) (by first | assumption | omega)) (by first | assumption | omega) dX3_putWrite_6 (fun H locs hP hS => ?_)
  refine lv_aload_n hx hb dX3_putWrite_7 rfl (lv_at hl 0 rfl) ?_
  refine lv_dup hx hb dX3_putWrite_8 rfl ?_
  refine kget X hP (oR (by first | assumption | omega) (by first | assumption | omega)) g_X3_28 rfl dX3_putWrite_9 ?_
  refine lv_iconst (v := nI 1) hx hb dX3_putWrite_12 (by decide) ?_
  refine lv_iload_n hx hb dX3_putWrite_13 rfl (lv_at hl 1 rfl) ?_
  refine lv_ishl hx hb dX3_putWrite_14 ?_
  refine lv_ior hx hb dX3_putWrite_15 ?_
  refine kput X hI hP hS (oR (by first | assumption | omega) (by first | assumption | omega)) g_X3_28 (fun _ => rfl) rfl (fun _ => Nat.le_of_ble_eq_true rfl) rfl rfl dX3_putWrite_16 (fun H locs hP hS => ?_)
  exact hret _ _ _ _ _ (by rw [gs_other (show rN j r ≠ rW j r by unfold rN rW; omega)]; rfl) hP hS dX3_putWrite_19

set_option maxHeartbeats 4000000 in
set_option maxRecDepth 100000 in
theorem c_X3_begin (l : Launch) {D : va_G} {τ : Nat → ClassId} {ad : Nat → Nat} (hI : kInj ad) {G : Nat → Nat → Int32} {j r : Nat} {x y : Int32} (hj : j < 7) (hr : r < 40) : kMv l yX3_begin cX3_begin 3 { frames := 0, cells := 0, slots := 0, locals := 0 } D τ ad [.ref (ad (rN j r)), .int x, .int y] G (fun G' => G' = gs (gs (gs (gs (gs (gs (gs (gs G (rN j r) 1 0) (rN j r) 2 x) (rN j r) 3 y) (rN j r) 4 0) (rN j r) 5 0) (rN j r) 6 0) (rN j r) 7 0) (rN j r) 8 0) := by
  refine kMetV (own := RX3) (by decide) rfl (Nat.le_of_ble_eq_true rfl) ?_
  intro p9 e9 s9 m9 args9 below9 meth9 c9 Q9 X hx hb hP hS hret ls hl
  have hPs := hP
  have hl : lv_has ls 3 [(0, .ref (ad (rN j r))), (1, .int x), (2, .int y)] := hl
  refine lv_aload_n hx hb dX3_begin_0 rfl (lv_at hl 0 rfl) ?_
  refine lv_iconst (v := nI 0) hx hb dX3_begin_1 (by decide) ?_
  refine kput X hI hP hS (oR (by first | assumption | omega) (by first | assumption | omega)) g_X3_15 (fun _ => rfl) rfl (fun _ => Nat.le_of_ble_eq_true rfl) rfl rfl dX3_begin_2 (fun H locs hP hS => ?_)
  refine lv_aload_n hx hb dX3_begin_5 rfl (lv_at hl 0 rfl) ?_
  refine lv_iload_n hx hb dX3_begin_6 rfl (lv_at hl 1 rfl) ?_
  refine kput X hI hP hS (oR (by first | assumption | omega) (by first | assumption | omega)) g_X3_19 (fun _ => rfl) rfl (fun _ => Nat.le_of_ble_eq_true rfl) rfl rfl dX3_begin_7 (fun H locs hP hS => ?_)
  refine lv_aload_n hx hb dX3_begin_10 rfl (lv_at hl 0 rfl) ?_
  refine lv_iload_n hx hb dX3_begin_11 rfl (lv_at hl 2 rfl) ?_
  refine kput X hI hP hS (oR (by first | assumption | omega) (by first | assumption | omega)) g_X3_22 (fun _ => rfl) rfl (fun _ => Nat.le_of_ble_eq_true rfl) rfl rfl dX3_begin_12 (fun H locs hP hS => ?_)
  refine lv_aload_n hx hb dX3_begin_15 rfl (lv_at hl 0 rfl) ?_
  refine lv_iconst (v := nI 0) hx hb dX3_begin_16 (by decide) ?_
  refine kput X hI hP hS (oR (by first | assumption | omega) (by first | assumption | omega)) g_X3_25 (fun _ => rfl) rfl (fun _ => Nat.le_of_ble_eq_true rfl) rfl rfl dX3_begin_17 (fun H locs hP hS => ?_)
  refine lv_aload_n hx hb dX3_begin_20 rfl (lv_at hl 0 rfl) ?_
  refine lv_iconst (v := nI 0) hx hb dX3_begin_21 (by decide) ?_
  refine kput X hI hP hS (oR (by first | assumption | omega) (by first | assumption | omega)) g_X3_28 (fun _ => rfl) rfl (fun _ => Nat.le_of_ble_eq_true rfl) rfl rfl dX3_begin_22 (fun H locs hP hS => ?_)
  refine lv_aload_n hx hb dX3_begin_25 rfl (lv_at hl 0 rfl) ?_
  refine lv_iconst (v := nI 0) hx hb dX3_begin_26 (by decide) ?_
  refine kput X hI hP hS (oR (by first | assumption | omega) (by first | assumption | omega)) g_X3_31 (fun _ => rfl) rfl (fun _ => Nat.le_of_ble_eq_true rfl) rfl rfl dX3_begin_27 (fun H locs hP hS => ?_)
  refine lv_aload_n hx hb dX3_begin_30 rfl (lv_at hl 0 rfl) ?_
  refine lv_iconst (v := nI 0) hx hb dX3_begin_31 (by decide) ?_
  refine kput X hI hP hS (oR (by first | assumption | omega) (by first | assumption | omega)) g_X3_34 (fun _ => rfl) rfl (fun _ => Nat.le_of_ble_eq_true rfl) rfl rfl dX3_begin_32 (fun H locs hP hS => ?_)
  refine lv_aload_n hx hb dX3_begin_35 rfl (lv_at hl 0 rfl) ?_
  refine lv_iconst (v := nI 0) hx hb dX3_begin_36 (by decide) ?_
  refine kput X hI hP hS (oR (by first | assumption | omega) (by first | assumption | omega)) g_X3_37 (fun _ => rfl) rfl (fun _ => Nat.le_of_ble_eq_true rfl) rfl rfl dX3_begin_37 (fun H locs hP hS => ?_)
  exact hret _ _ _ _ _ (by rfl) hP hS dX3_begin_40

set_option maxHeartbeats 4000000 in
set_option maxRecDepth 100000 in
theorem c_X0_placeSeenAt (l : Launch) {D : va_G} {τ : Nat → ClassId} {ad : Nat → Nat} (hI : kInj ad) {G : Nat → Nat → Int32} {j c P : Nat} {x : Int32} (hj : j < 7) (hc : c < 12) (hpl : G (cB j c) 2 = nI P) (hp10 : P ≤ 10) : kM l yX0_placeSeenAt cX0_placeSeenAt 3 (some .int) { frames := 0, cells := 0, slots := 0, locals := 0 } D τ ad [.ref (ad (cB j c)), .int x] G (fun v G' => v = pf (G (cM j c)) x 0 P ∧ G' = G) := by
  refine kMet (own := RX0) (by decide) rfl (Nat.le_of_ble_eq_true rfl) ?_
  intro p9 e9 s9 m9 args9 below9 meth9 c9 Q9 X hx hb hP hS hret ls hl
  have hPs := hP
  have hl : lv_has ls 3 [(0, .ref (ad (cB j c))), (1, .int x)] := hl
  refine lv_iconst (v := nI 0) hx hb dX0_placeSeenAt_0 (by decide) ?_
  refine kist hx hb dX0_placeSeenAt_1 rfl hl (by decide) (kp_2_2 rfl) (fun ls hl => ?_)
  have lp_2 : ∀ (d : Nat) (i : Nat) (H : Heap) (locs : List Loc) (ls : Array Slot), (P - i) < d → (i ≤ P) → (pf (G (cM j c)) x 0 P = pf (G (cM j c)) x i (P - i)) → va_P D vwCl (kW τ ad G) H → va_S (kAd ad) s9.heap H locs → lv_has ls 3 [(0, .ref (ad (cB j c))), (1, .int x), (2, .int (nI i))] → W p9 l e9 { frames := 0, cells := 0, slots := 0, locals := 0 } s9 m9 args9 below9 meth9 c9 H locs 0 0 Q9 (F0 m9 2 ls []) := by
    intro d
    induction d with
    | zero => exact fun _ _ _ _ hd => absurd hd (Nat.not_lt_zero _)
    | succ d ih_2 =>
      intro i H locs ls hd iv_0 iv_1 hP hS hl
      refine lv_iload_n hx hb dX0_placeSeenAt_2 rfl (lv_at hl 2 rfl) ?_
      refine lv_aload_n hx hb dX0_placeSeenAt_3 rfl (lv_at hl 0 rfl) ?_
      refine kget X hP (oC (by first | assumption | omega) (by first | assumption | omega)) g_X0_18 (congrArg (fun z => some (Value.int z)) hpl) dX0_placeSeenAt_4 ?_
      first
        | refine kic_ge (tgt := 28) hx hb dX0_placeSeenAt_7 (by decide) (by with_reducible rfl) (by with_reducible rfl) (by omega) (by omega) (fun c_7 => ?_) (fun c_7 => ?_)
        | refine lv_icmp_ge (tgt := 28) hx hb dX0_placeSeenAt_7 (by decide) (fun c_7 => ?_) (fun c_7 => ?_)
      · skip
        refine lv_iconst (v := (-1)) hx hb dX0_placeSeenAt_28 (by decide) ?_
        exact hret _ _ _ _ _ _ (⟨(iv_1.trans (pf_end (by omega))).symm, rfl⟩) hP hS dX0_placeSeenAt_29
      · skip
        refine lv_aload_n hx hb dX0_placeSeenAt_10 rfl (lv_at hl 0 rfl) ?_
        refine kget X hP (oC (by first | assumption | omega) (by first | assumption | omega)) g_X0_15 rfl dX0_placeSeenAt_11 ?_
        refine lv_iload_n hx hb dX0_placeSeenAt_14 rfl (lv_at hl 2 rfl) ?_
        refine kiald X hP (aM (by first | assumption | omega) (by first | assumption | omega)) (by first | assumption | omega) dX0_placeSeenAt_15 ?_
        refine lv_iload_n hx hb dX0_placeSeenAt_16 rfl (lv_at hl 1 rfl) ?_
        first
          | refine kic_gt (tgt := 22) hx hb dX0_placeSeenAt_17 (by decide) (by with_reducible rfl) (by with_reducible rfl) (by omega) (by omega) (fun c_17 => ?_) (fun c_17 => ?_)
          | refine lv_icmp_gt (tgt := 22) hx hb dX0_placeSeenAt_17 (by decide) (fun c_17 => ?_) (fun c_17 => ?_)
        · skip
          first
            | refine kinc (q := 2) hx hb dX0_placeSeenAt_22 hl rfl (by decide) (kp_3_2 rfl) (fun ls hl => ?_)
            | refine kincG (q := 2) hx hb dX0_placeSeenAt_22 hl rfl (by decide) (kp_3_2 rfl) (fun ls hl => ?_)
          refine lv_goto (tgt := 2) hx hb dX0_placeSeenAt_25 (by decide) ?_
          exact ih_2 _ _ _ _ (by omega) (by omega) (iv_1.trans (pf_step (by omega) (Int32.not_le.mpr c_17))) hP hS (lv_sub hl [0,1,2] rfl)
        · skip
          refine lv_iload_n hx hb dX0_placeSeenAt_20 rfl (lv_at hl 2 rfl) ?_
          exact hret _ _ _ _ _ _ (⟨(iv_1.trans (pf_hit (by omega) (Int32.not_lt.mp c_17))).symm, rfl⟩) hP hS dX0_placeSeenAt_21
  exact lp_2 _ 0 _ _ _ (Nat.lt_succ_self _) (Nat.zero_le _) (rfl) hP hS (lv_sub hl [0,1,2] rfl)

set_option maxHeartbeats 4000000 in
set_option maxRecDepth 100000 in
theorem c_X4_hasReader (l : Launch) {D : va_G} {τ : Nat → ClassId} {ad : Nat → Nat} (hI : kInj ad) {G : Nat → Nat → Int32} {j : Nat} {x : Int32} (hj : j < 7) : kM l yX4_hasReader cX4_hasReader 2 (some .boolean) { frames := 0, cells := 0, slots := 0, locals := 0 } D τ ad [.ref (ad (sB j)), .int x] G (fun v G' => v = (if 0 ≤ x ∧ x < G (sB j) 6 then 1 else 0) ∧ G' = G) := by
  refine kMetZ (own := RX4) (by decide) rfl (Nat.le_of_ble_eq_true rfl) ?_
  intro p9 e9 s9 m9 args9 below9 meth9 c9 Q9 X hx hb hP hS hret ls hl
  have hPs := hP
  have hl : lv_has ls 2 [(0, .ref (ad (sB j))), (1, .int x)] := hl
  refine lv_iload_n hx hb dX4_hasReader_0 rfl (lv_at hl 1 rfl) ?_
  refine lv_if_lt (tgt := 16) hx hb dX4_hasReader_1 (by decide) (fun c_1 => ?_) (fun c_1 => ?_)
  · skip
    refine lv_iconst (v := nI 0) hx hb dX4_hasReader_16 (by decide) ?_
    exact hret _ _ _ _ _ _ (by decide) (by refine ⟨?_, rfl⟩; first | exact (if_pos ⟨Int32.not_lt.mp c_1, Int32.not_le.mp c_9⟩).symm | exact (if_neg (fun z => Int32.not_lt.mpr z.1 c_1)).symm | exact (if_neg (fun z => Int32.not_le.mpr z.2 c_9)).symm) hP hS dX4_hasReader_17
  · skip
    refine lv_iload_n hx hb dX4_hasReader_4 rfl (lv_at hl 1 rfl) ?_
    refine lv_aload_n hx hb dX4_hasReader_5 rfl (lv_at hl 0 rfl) ?_
    refine kget X hP (oS (by first | assumption | omega)) g_X4_44 rfl dX4_hasReader_6 ?_
    first
      | refine kic_ge (tgt := 16) hx hb dX4_hasReader_9 (by decide) (by with_reducible rfl) (by with_reducible rfl) (by omega) (by omega) (fun c_9 => ?_) (fun c_9 => ?_)
      | refine lv_icmp_ge (tgt := 16) hx hb dX4_hasReader_9 (by decide) (fun c_9 => ?_) (fun c_9 => ?_)
    · skip
      refine lv_iconst (v := nI 0) hx hb dX4_hasReader_16 (by decide) ?_
      exact hret _ _ _ _ _ _ (by decide) (by refine ⟨?_, rfl⟩; first | exact (if_pos ⟨Int32.not_lt.mp c_1, Int32.not_le.mp c_9⟩).symm | exact (if_neg (fun z => Int32.not_lt.mpr z.1 c_1)).symm | exact (if_neg (fun z => Int32.not_le.mpr z.2 c_9)).symm) hP hS dX4_hasReader_17
    · skip
      refine lv_iconst (v := nI 1) hx hb dX4_hasReader_12 (by decide) ?_
      refine lv_goto (tgt := 17) hx hb dX4_hasReader_13 (by decide) ?_
      exact hret _ _ _ _ _ _ (by decide) (by refine ⟨?_, rfl⟩; first | exact (if_pos ⟨Int32.not_lt.mp c_1, Int32.not_le.mp c_9⟩).symm | exact (if_neg (fun z => Int32.not_lt.mpr z.1 c_1)).symm | exact (if_neg (fun z => Int32.not_le.mpr z.2 c_9)).symm) hP hS dX4_hasReader_17

set_option maxHeartbeats 4000000 in
set_option maxRecDepth 100000 in
theorem c_X4_readersIn (l : Launch) {D : va_G} {τ : Nat → ClassId} {ad : Nat → Nat} (hI : kInj ad) {G : Nat → Nat → Int32} {j n : Nat} {w : Int32} (hj : j < 7) (hn : G (sB j) 6 = nI n) (hn4 : n ≤ 40) : kM l yX4_readersIn cX4_readersIn 4 (some .int) { frames := 0, cells := 0, slots := 0, locals := 0 } D τ ad [.ref (ad (sB j)), .int w] G (fun v G' => v = nI (cn (fun i => if G (rN j i) 1 = w then 1 else 0) n) ∧ G' = G) := by
  refine kMet (own := RX4) (by decide) rfl (Nat.le_of_ble_eq_true rfl) ?_
  intro p9 e9 s9 m9 args9 below9 meth9 c9 Q9 X hx hb hP hS hret ls hl
  have hPs := hP
  have hl : lv_has ls 4 [(0, .ref (ad (sB j))), (1, .int w)] := hl
  refine lv_iconst (v := nI 0) hx hb dX4_readersIn_0 (by decide) ?_
  refine kist hx hb dX4_readersIn_1 rfl hl (by decide) (kp_2_2 rfl) (fun ls hl => ?_)
  refine lv_iconst (v := nI 0) hx hb dX4_readersIn_2 (by decide) ?_
  refine kist hx hb dX4_readersIn_3 rfl hl (by decide) (kp_3_3 rfl) (fun ls hl => ?_)
  have lp_4 : ∀ (d : Nat) (i x : Nat) (H : Heap) (locs : List Loc) (ls : Array Slot), (n - i) < d → (i ≤ n) → (x = cn (fun i => if G (rN j i) 1 = w then 1 else 0) i) → va_P D vwCl (kW τ ad G) H → va_S (kAd ad) s9.heap H locs → lv_has ls 4 [(0, .ref (ad (sB j))), (1, .int w), (2, .int (nI x)), (3, .int (nI i))] → W p9 l e9 { frames := 0, cells := 0, slots := 0, locals := 0 } s9 m9 args9 below9 meth9 c9 H locs 0 0 Q9 (F0 m9 4 ls []) := by
    intro d
    induction d with
    | zero => exact fun _ _ _ _ _ hd => absurd hd (Nat.not_lt_zero _)
    | succ d ih_4 =>
      intro i x H locs ls hd iv_0 iv_1 hP hS hl
      refine lv_iload_n hx hb dX4_readersIn_4 rfl (lv_at hl 3 rfl) ?_
      refine lv_aload_n hx hb dX4_readersIn_5 rfl (lv_at hl 0 rfl) ?_
      refine kget X hP (oS (by first | assumption | omega)) g_X4_44 (congrArg (fun z => some (Value.int z)) hn) dX4_readersIn_6 ?_
      first
        | refine kic_ge (tgt := 34) hx hb dX4_readersIn_9 (by decide) (by with_reducible rfl) (by with_reducible rfl) (by omega) (by omega) (fun c_9 => ?_) (fun c_9 => ?_)
        | refine lv_icmp_ge (tgt := 34) hx hb dX4_readersIn_9 (by decide) (fun c_9 => ?_) (fun c_9 => ?_)
      · skip
        refine lv_iload_n hx hb dX4_readersIn_34 rfl (lv_at hl 2 rfl) ?_
        exact hret _ _ _ _ _ _ (⟨congrArg nI (iv_1.trans (by rw [show i = n by omega])), rfl⟩) hP hS dX4_readersIn_35
      · skip
        refine lv_aload_n hx hb dX4_readersIn_12 rfl (lv_at hl 0 rfl) ?_
        refine kget X hP (oS (by first | assumption | omega)) g_X4_19 rfl dX4_readersIn_13 ?_
        refine lv_iload_n hx hb dX4_readersIn_16 rfl (lv_at hl 3 rfl) ?_
        refine kaald X hP (qR (by first | assumption | omega)) (by first | assumption | omega) rfl dX4_readersIn_17 ?_
        refine kget X hP (oR (by first | assumption | omega) (by first | assumption | omega)) g_X4_73 rfl dX4_readersIn_18 ?_
        refine lv_iload_n hx hb dX4_readersIn_21 rfl (lv_at hl 1 rfl) ?_
        first
          | refine kic_ne (tgt := 28) hx hb dX4_readersIn_22 (by decide) (by with_reducible rfl) (by with_reducible rfl) (by omega) (by omega) (fun c_22 => ?_) (fun c_22 => ?_)
          | refine lv_icmp_ne (tgt := 28) hx hb dX4_readersIn_22 (by decide) (fun c_22 => ?_) (fun c_22 => ?_)
        · skip
          first
            | refine kinc (q := 3) hx hb dX4_readersIn_28 hl rfl (by decide) (kp_4_3 rfl) (fun ls hl => ?_)
            | refine kincG (q := 3) hx hb dX4_readersIn_28 hl rfl (by decide) (kp_4_3 rfl) (fun ls hl => ?_)
          refine lv_goto (tgt := 4) hx hb dX4_readersIn_31 (by decide) ?_
          exact ih_4 _ _ _ _ _ (by omega) (by omega) (by first | exact cn_p iv_1 (if_pos (by first | assumption | exact ⟨‹_›, ‹_›⟩)) | exact cn_z iv_1 (if_neg (by first | assumption | (intro z; exact absurd z.1 ‹_›) | (intro z; exact absurd z.2 ‹_›)))) hP hS (lv_sub hl [0,1,2,3] rfl)
        · skip
          first
            | refine kinc (q := 2) hx hb dX4_readersIn_25 hl rfl (by decide) (kp_4_2 rfl) (fun ls hl => ?_)
            | refine kincG (q := 2) hx hb dX4_readersIn_25 hl rfl (by decide) (kp_4_2 rfl) (fun ls hl => ?_)
          first
            | refine kinc (q := 3) hx hb dX4_readersIn_28 hl rfl (by decide) (kp_4_3 rfl) (fun ls hl => ?_)
            | refine kincG (q := 3) hx hb dX4_readersIn_28 hl rfl (by decide) (kp_4_3 rfl) (fun ls hl => ?_)
          refine lv_goto (tgt := 4) hx hb dX4_readersIn_31 (by decide) ?_
          exact ih_4 _ _ _ _ _ (by omega) (by omega) (by first | exact cn_p iv_1 (if_pos (by first | assumption | exact ⟨‹_›, ‹_›⟩)) | exact cn_z iv_1 (if_neg (by first | assumption | (intro z; exact absurd z.1 ‹_›) | (intro z; exact absurd z.2 ‹_›)))) hP hS (lv_sub hl [0,1,2,3] rfl)
  exact lp_4 _ 0 0 _ _ _ (Nat.lt_succ_self _) (Nat.zero_le _) (rfl) hP hS (lv_sub hl [0,1,2,3] rfl)
