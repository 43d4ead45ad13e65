
def clM (N : Nat → Int32) (V n c : Nat) (y : Int32) : Int32 := if y = nI 0 then N (809 + 3 * vA N V (nI c) (N 0) + 2) else if y = nI 1 then N (809 + 3 * vA N V (nI c) (N 0) + 1) else if y = nI 2 then nI (cn (fun q => if N (809 + 3 * q + 0) = nI c then 1 else 0) V) else if y = nI 3 then nI (cn (sbM N V (vA N V (nI c) (N 0)) (nI 1)) n) else if y = nI 4 then nI (cn (fun r => if N (9 + 20 * r + 2) = 0 ∧ hw (N (9 + 20 * r + 4)) c then 1 else 0) n) else -2
def rdM (N : Nat → Int32) (V n k r : Nat) (y : Int32) : Int32 := if y = nI 0 then N (9 + 20 * r + 2) else if y = nI 1 then N (9 + 20 * r + 0) else if y = nI 2 then N (9 + 20 * r + 1) else if y = nI 3 then dueM N V n r else if y = nI 4 then N (9 + 20 * r + 3) else if y = nI 5 then N (9 + 20 * r + 4) else if y = nI 6 then N (9 + 20 * r + 5) else if y = nI 7 then N (9 + 20 * r + 7) else if y = nI 8 then (if N (9 + 20 * r + 2) = 0 then sm (snM N V r (nI 1)) 12 else nI 0) else if y = nI 9 then (if N (9 + 20 * r + 2) = 0 then sm (snM N V r (nI 0)) 12 else nI 0) else if y = nI 10 then (if N (9 + 20 * r + 2) = 0 ∧ cn (cfM N V r) 12 ≠ 0 then nI 1 else nI 0) else if y = nI 11 then (if N (9 + 20 * r + 2) = 0 then nI (cn (ssM N r) k) else nI 0) else -2
def ctM (G : Nat → Nat → Int32) (V n k : Nat) (y : Int32) : Int32 := if y = nI 0 then G 1 0 else if y = nI 1 then G 1 1 else if y = nI 2 then G 1 2 else if y = nI 3 then nI (cn (fun r => if G 1 (9 + 20 * r + 2) = nI 0 then 1 else 0) n) else if y = nI 4 then nI (cn (fun r => if G 1 (9 + 20 * r + 2) = nI 1 then 1 else 0) n) else if y = nI 5 then nI (cn (fun r => if G 1 (9 + 20 * r + 2) = nI 2 then 1 else 0) n) else if y = nI 6 then nI (cn (fun r => if G 1 (9 + 20 * r + 2) = nI 3 then 1 else 0) n) else if y = nI 7 then nI V - nI 12 else if y = nI 8 then G 1 3 else if y = nI 9 then G 1 4 else if y = nI 10 then G 1 5 else if y = nI 11 then G 1 6 else if y = nI 12 then nI (cn (fun q => cn (swM (G 1) q) q) k) else if y = nI 13 then G 1 7 else if y = nI 14 then nI (cn (fun r => if G 1 (9 + 20 * r + 2) = 0 ∧ 0 < G 1 (9 + 20 * r + 5) then 1 else 0) n) else if y = nI 15 then G 0 2 else if y = nI 16 then G 0 5 else -2
def vwF (N : Nat → Int32) (V c : Nat) : Nat → Nat
  | 0 => vA N V (nI c) (N 0)
  | k + 1 => vA N V (nI c) (N (809 + 3 * vwF N V c k + 1) - nI 1)
theorem vwF_lt {N : Nat → Int32} {V c k : Nat} (h : 0 < V) : vwF N V c k < V := by
  cases k with
  | zero => exact vA_lt h
  | succ k => exact vA_lt h
def vrM (N : Nat → Int32) (V n q : Nat) (p y : Int32) : Int32 := if y = nI 0 then N (809 + 3 * q + 2) else if y = nI 1 then N (809 + 3 * q + 1) else if y = nI 2 then nI (cn (sbM N V q (nI 1)) n) else if y = nI 3 then nI (cn (sbM N V q (nI 0)) n) else if p = 0 then nI 0 else reM N V n q
def vcM (N : Nat → Int32) (V c : Nat) : Nat := cn (fun q => if N (809 + 3 * q + 0) = nI c then 1 else 0) V
set_option maxHeartbeats 4000000 in
set_option maxRecDepth 100000 in
theorem c_X7_cell (l : Launch) {D : va_G} {τ : Nat → ClassId} {ad : Nat → Nat} (hI : kInj ad) {G : Nat → Nat → Int32} {Wn n : Nat} {x y : Int32} (hW : G 1 8 = nI Wn) (hW1 : 1 ≤ Wn) (hW6 : Wn ≤ 64) (hn : G 1 2 = nI n) (hn4 : n ≤ 40) : kM l yX7_cell cX7_cell 3 (some .int) { frames := 4, cells := 0, slots := 0, locals := 94 } D τ ad [.ref (ad 0), .int x, .int y] G (fun v G' => G' = G ∧ rdP 12 x (v = -1) (fun c => v = clM (G 1) Wn n c y)) := by
  refine kMet (own := RX7) (by decide) rfl (Nat.le_of_ble_eq_true rfl) ?_
  intro p9 e9 s9 m9 args9 below9 meth9 c9 Q9 X hx hb hP hS hret ls hl
  have hPs := hP
  have hl : lv_has ls 3 [(0, .ref (ad 0)), (1, .int x), (2, .int y)] := hl
  refine lv_iload_n hx hb dX7_cell_0 rfl (lv_at hl 1 rfl) ?_
  refine kcS X hP hS (c_X7_isCell l hI) v_X7_108 ⟨Nat.le_of_ble_eq_true rfl, Nat.le_of_ble_eq_true rfl, rfl, rfl⟩ rfl rfl (Nat.le_of_ble_eq_true rfl) hl.1 ⟨Nat.zero_le _, Nat.zero_le _⟩ dX7_cell_1 (fun r_1 G_1 H locs hR hP hS => ?_)
  obtain ⟨rfl, hG_1⟩ := hR
  rw [hG_1] at hP
  clear hG_1
  first
    | refine kif_ne (tgt := 9) hx hb dX7_cell_4 (by decide) (fun c_4 => ?_) (fun c_4 => ?_)
    | refine lv_if_ne (tgt := 9) hx hb dX7_cell_4 (by decide) (fun c_4 => ?_) (fun c_4 => ?_)
  · skip
    obtain ⟨c, hc, rfl⟩ := isC_yes c_4
    refine lv_iload_n hx hb dX7_cell_9 rfl (lv_at hl 2 rfl) ?_
    by_cases q_0 : y = nI 0
    · skip
      subst q_0
      refine lv_tableIn (off := 34) (tgt := 44) hx hb dX7_cell_10 (by decide) (by decide) rfl (by decide) ?_
      refine lv_aload_n hx hb dX7_cell_44 rfl (lv_at hl 0 rfl) ?_
      refine lv_aload_n hx hb dX7_cell_45 rfl (lv_at hl 0 rfl) ?_
      refine lv_iload_n hx hb dX7_cell_46 rfl (lv_at hl 1 rfl) ?_
      refine kcV X hP hS (c_X7_newest l hI hW hW1 hW6) oJ v_X7_60 ⟨Nat.le_of_ble_eq_true rfl, Nat.le_of_ble_eq_true rfl, rfl, rfl⟩ rfl rfl (Nat.le_of_ble_eq_true rfl) hl.1 ⟨Nat.zero_le _, Nat.zero_le _⟩ dX7_cell_47 (fun r_47 G_47 H locs hR hP hS => ?_)
      obtain ⟨rfl, hG_47⟩ := hR
      rw [hG_47] at hP
      clear hG_47
      obtain ⟨a, ha⟩ : ∃ z, z = vA (G 1) Wn (nI c) (G 1 0) := ⟨_, rfl⟩
      rw [← ha]
      have hb_a : a < Wn := by rw [ha]; exact vA_lt hW1
      refine lv_iconst (v := nI 2) hx hb dX7_cell_50 (by decide) ?_
      refine kcV X hP hS (c_X7_ofV l hI (by first | assumption | omega)) oJ v_X7_54 ⟨Nat.le_of_ble_eq_true rfl, Nat.le_of_ble_eq_true rfl, rfl, rfl⟩ rfl rfl (Nat.le_of_ble_eq_true rfl) hl.1 ⟨Nat.zero_le _, Nat.zero_le _⟩ dX7_cell_51 (fun r_51 G_51 H locs hR hP hS => ?_)
      obtain ⟨rfl, hG_51⟩ := hR
      rw [hG_51] at hP
      clear hG_51
      exact hret _ _ _ _ _ _ (⟨rfl, rdP_h hc (by omega) (by rw [clM, if_pos (rfl : nI 0 = nI 0), ← ha])⟩) hP hS dX7_cell_54
    by_cases q_1 : y = nI 1
    · skip
      subst q_1
      refine lv_tableIn (off := 45) (tgt := 55) hx hb dX7_cell_10 (by decide) (by decide) rfl (by decide) ?_
      refine lv_aload_n hx hb dX7_cell_55 rfl (lv_at hl 0 rfl) ?_
      refine lv_aload_n hx hb dX7_cell_56 rfl (lv_at hl 0 rfl) ?_
      refine lv_iload_n hx hb dX7_cell_57 rfl (lv_at hl 1 rfl) ?_
      refine kcV X hP hS (c_X7_newest l hI hW hW1 hW6) oJ v_X7_60 ⟨Nat.le_of_ble_eq_true rfl, Nat.le_of_ble_eq_true rfl, rfl, rfl⟩ rfl rfl (Nat.le_of_ble_eq_true rfl) hl.1 ⟨Nat.zero_le _, Nat.zero_le _⟩ dX7_cell_58 (fun r_58 G_58 H locs hR hP hS => ?_)
      obtain ⟨rfl, hG_58⟩ := hR
      rw [hG_58] at hP
      clear hG_58
      obtain ⟨a, ha⟩ : ∃ z, z = vA (G 1) Wn (nI c) (G 1 0) := ⟨_, rfl⟩
      rw [← ha]
      have hb_a : a < Wn := by rw [ha]; exact vA_lt hW1
      refine lv_iconst (v := nI 1) hx hb dX7_cell_61 (by decide) ?_
      refine kcV X hP hS (c_X7_ofV l hI (by first | assumption | omega)) oJ v_X7_54 ⟨Nat.le_of_ble_eq_true rfl, Nat.le_of_ble_eq_true rfl, rfl, rfl⟩ rfl rfl (Nat.le_of_ble_eq_true rfl) hl.1 ⟨Nat.zero_le _, Nat.zero_le _⟩ dX7_cell_62 (fun r_62 G_62 H locs hR hP hS => ?_)
      obtain ⟨rfl, hG_62⟩ := hR
      rw [hG_62] at hP
      clear hG_62
      exact hret _ _ _ _ _ _ (⟨rfl, rdP_h hc (by omega) (by rw [clM, if_neg q_0, if_pos (rfl : nI 1 = nI 1), ← ha])⟩) hP hS dX7_cell_65
    by_cases q_2 : y = nI 2
    · skip
      subst q_2
      refine lv_tableIn (off := 56) (tgt := 66) hx hb dX7_cell_10 (by decide) (by decide) rfl (by decide) ?_
      refine lv_aload_n hx hb dX7_cell_66 rfl (lv_at hl 0 rfl) ?_
      refine lv_iload_n hx hb dX7_cell_67 rfl (lv_at hl 1 rfl) ?_
      refine kcV X hP hS (c_X7_versionsOf l hI hW hW1 hW6) oJ v_X7_172 ⟨Nat.le_of_ble_eq_true rfl, Nat.le_of_ble_eq_true rfl, rfl, rfl⟩ rfl rfl (Nat.le_of_ble_eq_true rfl) hl.1 ⟨Nat.zero_le _, Nat.zero_le _⟩ dX7_cell_68 (fun r_68 G_68 H locs hR hP hS => ?_)
      obtain ⟨rfl, hG_68⟩ := hR
      rw [hG_68] at hP
      clear hG_68
      exact hret _ _ _ _ _ _ (⟨rfl, rdP_h hc (by omega) (by rw [clM, if_neg q_0, if_neg q_1, if_pos (rfl : nI 2 = nI 2)])⟩) hP hS dX7_cell_71
    by_cases q_3 : y = nI 3
    · skip
      subst q_3
      refine lv_tableIn (off := 62) (tgt := 72) hx hb dX7_cell_10 (by decide) (by decide) rfl (by decide) ?_
      refine lv_aload_n hx hb dX7_cell_72 rfl (lv_at hl 0 rfl) ?_
      refine lv_aload_n hx hb dX7_cell_73 rfl (lv_at hl 0 rfl) ?_
      refine lv_iload_n hx hb dX7_cell_74 rfl (lv_at hl 1 rfl) ?_
      refine kcV X hP hS (c_X7_newest l hI hW hW1 hW6) oJ v_X7_60 ⟨Nat.le_of_ble_eq_true rfl, Nat.le_of_ble_eq_true rfl, rfl, rfl⟩ rfl rfl (Nat.le_of_ble_eq_true rfl) hl.1 ⟨Nat.zero_le _, Nat.zero_le _⟩ dX7_cell_75 (fun r_75 G_75 H locs hR hP hS => ?_)
      obtain ⟨rfl, hG_75⟩ := hR
      rw [hG_75] at hP
      clear hG_75
      obtain ⟨a, ha⟩ : ∃ z, z = vA (G 1) Wn (nI c) (G 1 0) := ⟨_, rfl⟩
      rw [← ha]
      have hb_a : a < Wn := by rw [ha]; exact vA_lt hW1
      refine lv_iconst (v := nI 1) hx hb dX7_cell_78 (by decide) ?_
      refine kcV X hP hS (c_X7_seenBy l hI (w := nI 1) hW hW1 hW6 hn hn4 (by omega)) oJ v_X7_75 ⟨Nat.le_of_ble_eq_true rfl, Nat.le_of_ble_eq_true rfl, rfl, rfl⟩ rfl rfl (Nat.le_of_ble_eq_true rfl) hl.1 ⟨Nat.zero_le _, Nat.zero_le _⟩ dX7_cell_79 (fun r_79 G_79 H locs hR hP hS => ?_)
      obtain ⟨rfl, hG_79⟩ := hR
      rw [hG_79] at hP
      clear hG_79
      exact hret _ _ _ _ _ _ (⟨rfl, rdP_h hc (by omega) (by rw [clM, if_neg q_0, if_neg q_1, if_neg q_2, if_pos (rfl : nI 3 = nI 3), ← ha])⟩) hP hS dX7_cell_82
    by_cases q_4 : y = nI 4
    · skip
      subst q_4
      refine lv_tableIn (off := 73) (tgt := 83) hx hb dX7_cell_10 (by decide) (by decide) rfl (by decide) ?_
      refine lv_aload_n hx hb dX7_cell_83 rfl (lv_at hl 0 rfl) ?_
      refine lv_iload_n hx hb dX7_cell_84 rfl (lv_at hl 1 rfl) ?_
      refine kcV X hP hS (c_X7_writers l hI hn hn4) oJ v_X7_175 ⟨Nat.le_of_ble_eq_true rfl, Nat.le_of_ble_eq_true rfl, rfl, rfl⟩ rfl rfl (Nat.le_of_ble_eq_true rfl) hl.1 ⟨Nat.zero_le _, Nat.zero_le _⟩ dX7_cell_85 (fun r_85 G_85 H locs hR hP hS => ?_)
      obtain ⟨rfl, hG_85⟩ := hR
      rw [hG_85] at hP
      clear hG_85
      exact hret _ _ _ _ _ _ (⟨rfl, rdP_h hc (by omega) (by rw [clM, if_neg q_0, if_neg q_1, if_neg q_2, if_neg q_3, if_pos (rfl : nI 4 = nI 4)])⟩) hP hS dX7_cell_88
    refine lv_tableOut (tgt := 89) hx hb dX7_cell_10 (tb_out 4 (by decide) (fun i hi => by
        rcases (show i = 0 ∨ i = 1 ∨ i = 2 ∨ i = 3 ∨ i = 4 by omega) with rfl | rfl | rfl | rfl | rfl <;> assumption)) (by decide) ?_
    refine lv_bipush (v := (-2)) hx hb dX7_cell_89 (by decide) ?_
    exact hret _ _ _ _ _ _ (⟨rfl, rdP_h hc (by omega) (by rw [clM, if_neg q_0, if_neg q_1, if_neg q_2, if_neg q_3, if_neg q_4])⟩) hP hS dX7_cell_91
  · skip
    have hmc := isC_no c_4
    refine lv_iconst (v := (-1)) hx hb dX7_cell_7 (by decide) ?_
    exact hret _ _ _ _ _ _ (⟨rfl, rdP_m hmc rfl⟩) hP hS dX7_cell_8

set_option maxHeartbeats 4000000 in
set_option maxRecDepth 100000 in
theorem c_X7_reader (l : Launch) {D : va_G} {τ : Nat → ClassId} {ad : Nat → Nat} (hI : kInj ad) {G : Nat → Nat → Int32} {Wn n k : Nat} {x y : Int32} (hW : G 1 8 = nI Wn) (hW1 : 1 ≤ Wn) (hW6 : Wn ≤ 64) (hn : G 1 2 = nI n) (hn4 : n ≤ 40) (hk : G 1 6 = nI k) (hk4 : k ≤ 40) : kM l yX7_reader cX7_reader 3 (some .int) { frames := 6, cells := 0, slots := 0, locals := 139 } D τ ad [.ref (ad 0), .int x, .int y] G (fun v G' => G' = G ∧ rdP n x (v = -1) (fun r => v = rdM (G 1) Wn n k r y)) := by
  refine kMet (own := RX7) (by decide) rfl (Nat.le_of_ble_eq_true rfl) ?_
  intro p9 e9 s9 m9 args9 below9 meth9 c9 Q9 X hx hb hP hS hret ls hl
  have hPs := hP
  have hl : lv_has ls 3 [(0, .ref (ad 0)), (1, .int x), (2, .int y)] := hl
  refine lv_aload_n hx hb dX7_reader_0 rfl (lv_at hl 0 rfl) ?_
  refine lv_iload_n hx hb dX7_reader_1 rfl (lv_at hl 1 rfl) ?_
  refine kcV X hP hS (c_X7_isReader l hI) oJ v_X7_92 ⟨Nat.le_of_ble_eq_true rfl, Nat.le_of_ble_eq_true rfl, rfl, rfl⟩ rfl rfl (Nat.le_of_ble_eq_true rfl) hl.1 ⟨Nat.zero_le _, Nat.zero_le _⟩ dX7_reader_2 (fun r_2 G_2 H locs hR hP hS => ?_)
  obtain ⟨rfl, hG_2⟩ := hR
  rw [hG_2] at hP
  clear hG_2
  first
    | refine kif_ne (tgt := 10) hx hb dX7_reader_5 (by decide) (fun c_5 => ?_) (fun c_5 => ?_)
    | refine lv_if_ne (tgt := 10) hx hb dX7_reader_5 (by decide) (fun c_5 => ?_) (fun c_5 => ?_)
  · skip
    obtain ⟨r, hr, rfl⟩ := isR_yes hn4 (by rw [hn] at c_5; exact c_5)
    refine lv_iload_n hx hb dX7_reader_10 rfl (lv_at hl 2 rfl) ?_
    by_cases q_0 : y = nI 0
    · skip
      subst q_0
      refine lv_tableIn (off := 61) (tgt := 72) hx hb dX7_reader_11 (by decide) (by decide) rfl (by decide) ?_
      refine lv_aload_n hx hb dX7_reader_72 rfl (lv_at hl 0 rfl) ?_
      refine lv_iload_n hx hb dX7_reader_73 rfl (lv_at hl 1 rfl) ?_
      refine lv_iconst (v := nI 2) hx hb dX7_reader_74 (by decide) ?_
      refine kcV X hP hS (c_X7_ofR l hI (by first | assumption | omega)) oJ v_X7_32 ⟨Nat.le_of_ble_eq_true rfl, Nat.le_of_ble_eq_true rfl, rfl, rfl⟩ rfl rfl (Nat.le_of_ble_eq_true rfl) hl.1 ⟨Nat.zero_le _, Nat.zero_le _⟩ dX7_reader_75 (fun r_75 G_75 H locs hR hP hS => ?_)
      obtain ⟨rfl, hG_75⟩ := hR
      rw [hG_75] at hP
      clear hG_75
      exact hret _ _ _ _ _ _ (⟨rfl, rdP_h hr hn4 (by rw [rdM, if_pos (rfl : nI 0 = nI 0)])⟩) hP hS dX7_reader_78
    by_cases q_1 : y = nI 1
    · skip
      subst q_1
      refine lv_tableIn (off := 68) (tgt := 79) hx hb dX7_reader_11 (by decide) (by decide) rfl (by decide) ?_
      refine lv_aload_n hx hb dX7_reader_79 rfl (lv_at hl 0 rfl) ?_
      refine lv_iload_n hx hb dX7_reader_80 rfl (lv_at hl 1 rfl) ?_
      refine lv_iconst (v := nI 0) hx hb dX7_reader_81 (by decide) ?_
      refine kcV X hP hS (c_X7_ofR l hI (by first | assumption | omega)) oJ v_X7_32 ⟨Nat.le_of_ble_eq_true rfl, Nat.le_of_ble_eq_true rfl, rfl, rfl⟩ rfl rfl (Nat.le_of_ble_eq_true rfl) hl.1 ⟨Nat.zero_le _, Nat.zero_le _⟩ dX7_reader_82 (fun r_82 G_82 H locs hR hP hS => ?_)
      obtain ⟨rfl, hG_82⟩ := hR
      rw [hG_82] at hP
      clear hG_82
      exact hret _ _ _ _ _ _ (⟨rfl, rdP_h hr hn4 (by rw [rdM, if_neg q_0, if_pos (rfl : nI 1 = nI 1)])⟩) hP hS dX7_reader_85
    by_cases q_2 : y = nI 2
    · skip
      subst q_2
      refine lv_tableIn (off := 75) (tgt := 86) hx hb dX7_reader_11 (by decide) (by decide) rfl (by decide) ?_
      refine lv_aload_n hx hb dX7_reader_86 rfl (lv_at hl 0 rfl) ?_
      refine lv_iload_n hx hb dX7_reader_87 rfl (lv_at hl 1 rfl) ?_
      refine lv_iconst (v := nI 1) hx hb dX7_reader_88 (by decide) ?_
      refine kcV X hP hS (c_X7_ofR l hI (by first | assumption | omega)) oJ v_X7_32 ⟨Nat.le_of_ble_eq_true rfl, Nat.le_of_ble_eq_true rfl, rfl, rfl⟩ rfl rfl (Nat.le_of_ble_eq_true rfl) hl.1 ⟨Nat.zero_le _, Nat.zero_le _⟩ dX7_reader_89 (fun r_89 G_89 H locs hR hP hS => ?_)
      obtain ⟨rfl, hG_89⟩ := hR
      rw [hG_89] at hP
      clear hG_89
      exact hret _ _ _ _ _ _ (⟨rfl, rdP_h hr hn4 (by rw [rdM, if_neg q_0, if_neg q_1, if_pos (rfl : nI 2 = nI 2)])⟩) hP hS dX7_reader_92
    by_cases q_3 : y = nI 3
    · skip
      subst q_3
      refine lv_tableIn (off := 82) (tgt := 93) hx hb dX7_reader_11 (by decide) (by decide) rfl (by decide) ?_
      refine lv_aload_n hx hb dX7_reader_93 rfl (lv_at hl 0 rfl) ?_
      refine lv_iload_n hx hb dX7_reader_94 rfl (lv_at hl 1 rfl) ?_
      refine kcV X hP hS (c_X7_dueOf l hI hW hW1 hW6 hn hn4 (by omega)) oJ v_X7_95 ⟨Nat.le_of_ble_eq_true rfl, Nat.le_of_ble_eq_true rfl, rfl, rfl⟩ rfl rfl (Nat.le_of_ble_eq_true rfl) hl.1 ⟨Nat.zero_le _, Nat.zero_le _⟩ dX7_reader_95 (fun r_95 G_95 H locs hR hP hS => ?_)
      obtain ⟨rfl, hG_95⟩ := hR
      rw [hG_95] at hP
      clear hG_95
      exact hret _ _ _ _ _ _ (⟨rfl, rdP_h hr hn4 (by rw [rdM, if_neg q_0, if_neg q_1, if_neg q_2, if_pos (rfl : nI 3 = nI 3)])⟩) hP hS dX7_reader_98
    by_cases q_4 : y = nI 4
    · skip
      subst q_4
      refine lv_tableIn (off := 88) (tgt := 99) hx hb dX7_reader_11 (by decide) (by decide) rfl (by decide) ?_
      refine lv_aload_n hx hb dX7_reader_99 rfl (lv_at hl 0 rfl) ?_
      refine lv_iload_n hx hb dX7_reader_100 rfl (lv_at hl 1 rfl) ?_
      refine lv_iconst (v := nI 3) hx hb dX7_reader_101 (by decide) ?_
      refine kcV X hP hS (c_X7_ofR l hI (by first | assumption | omega)) oJ v_X7_32 ⟨Nat.le_of_ble_eq_true rfl, Nat.le_of_ble_eq_true rfl, rfl, rfl⟩ rfl rfl (Nat.le_of_ble_eq_true rfl) hl.1 ⟨Nat.zero_le _, Nat.zero_le _⟩ dX7_reader_102 (fun r_102 G_102 H locs hR hP hS => ?_)
      obtain ⟨rfl, hG_102⟩ := hR
      rw [hG_102] at hP
      clear hG_102
      exact hret _ _ _ _ _ _ (⟨rfl, rdP_h hr hn4 (by rw [rdM, if_neg q_0, if_neg q_1, if_neg q_2, if_neg q_3, if_pos (rfl : nI 4 = nI 4)])⟩) hP hS dX7_reader_105
    by_cases q_5 : y = nI 5
    · skip
      subst q_5
      refine lv_tableIn (off := 95) (tgt := 106) hx hb dX7_reader_11 (by decide) (by decide) rfl (by decide) ?_
      refine lv_aload_n hx hb dX7_reader_106 rfl (lv_at hl 0 rfl) ?_
      refine lv_iload_n hx hb dX7_reader_107 rfl (lv_at hl 1 rfl) ?_
      refine lv_iconst (v := nI 4) hx hb dX7_reader_108 (by decide) ?_
      refine kcV X hP hS (c_X7_ofR l hI (by first | assumption | omega)) oJ v_X7_32 ⟨Nat.le_of_ble_eq_true rfl, Nat.le_of_ble_eq_true rfl, rfl, rfl⟩ rfl rfl (Nat.le_of_ble_eq_true rfl) hl.1 ⟨Nat.zero_le _, Nat.zero_le _⟩ dX7_reader_109 (fun r_109 G_109 H locs hR hP hS => ?_)
      obtain ⟨rfl, hG_109⟩ := hR
      rw [hG_109] at hP
      clear hG_109
      exact hret _ _ _ _ _ _ (⟨rfl, rdP_h hr hn4 (by rw [rdM, if_neg q_0, if_neg q_1, if_neg q_2, if_neg q_3, if_neg q_4, if_pos (rfl : nI 5 = nI 5)])⟩) hP hS dX7_reader_112
    by_cases q_6 : y = nI 6
    · skip
      subst q_6
      refine lv_tableIn (off := 102) (tgt := 113) hx hb dX7_reader_11 (by decide) (by decide) rfl (by decide) ?_
      refine lv_aload_n hx hb dX7_reader_113 rfl (lv_at hl 0 rfl) ?_
      refine lv_iload_n hx hb dX7_reader_114 rfl (lv_at hl 1 rfl) ?_
      refine lv_iconst (v := nI 5) hx hb dX7_reader_115 (by decide) ?_
      refine kcV X hP hS (c_X7_ofR l hI (by first | assumption | omega)) oJ v_X7_32 ⟨Nat.le_of_ble_eq_true rfl, Nat.le_of_ble_eq_true rfl, rfl, rfl⟩ rfl rfl (Nat.le_of_ble_eq_true rfl) hl.1 ⟨Nat.zero_le _, Nat.zero_le _⟩ dX7_reader_116 (fun r_116 G_116 H locs hR hP hS => ?_)
      obtain ⟨rfl, hG_116⟩ := hR
      rw [hG_116] at hP
      clear hG_116
      exact hret _ _ _ _ _ _ (⟨rfl, rdP_h hr hn4 (by rw [rdM, if_neg q_0, if_neg q_1, if_neg q_2, if_neg q_3, if_neg q_4, if_neg q_5, if_pos (rfl : nI 6 = nI 6)])⟩) hP hS dX7_reader_119
    by_cases q_7 : y = nI 7
    · skip
      subst q_7
      refine lv_tableIn (off := 109) (tgt := 120) hx hb dX7_reader_11 (by decide) (by decide) rfl (by decide) ?_
      refine lv_aload_n hx hb dX7_reader_120 rfl (lv_at hl 0 rfl) ?_
      refine lv_iload_n hx hb dX7_reader_121 rfl (lv_at hl 1 rfl) ?_
      refine lv_bipush (v := nI 7) hx hb dX7_reader_122 (by decide) ?_
      refine kcV X hP hS (c_X7_ofR l hI (by first | assumption | omega)) oJ v_X7_32 ⟨Nat.le_of_ble_eq_true rfl, Nat.le_of_ble_eq_true rfl, rfl, rfl⟩ rfl rfl (Nat.le_of_ble_eq_true rfl) hl.1 ⟨Nat.zero_le _, Nat.zero_le _⟩ dX7_reader_124 (fun r_124 G_124 H locs hR hP hS => ?_)
      obtain ⟨rfl, hG_124⟩ := hR
      rw [hG_124] at hP
      clear hG_124
      exact hret _ _ _ _ _ _ (⟨rfl, rdP_h hr hn4 (by rw [rdM, if_neg q_0, if_neg q_1, if_neg q_2, if_neg q_3, if_neg q_4, if_neg q_5, if_neg q_6, if_pos (rfl : nI 7 = nI 7)])⟩) hP hS dX7_reader_127
    by_cases q_8 : y = nI 8
    · skip
      subst q_8
      refine lv_tableIn (off := 117) (tgt := 128) hx hb dX7_reader_11 (by decide) (by decide) rfl (by decide) ?_
      refine lv_aload_n hx hb dX7_reader_128 rfl (lv_at hl 0 rfl) ?_
      refine lv_iload_n hx hb dX7_reader_129 rfl (lv_at hl 1 rfl) ?_
      refine lv_iload_n hx hb dX7_reader_130 rfl (lv_at hl 2 rfl) ?_
      refine lv_bipush (v := nI 8) hx hb dX7_reader_131 (by decide) ?_
      first
        | refine kic_ne (tgt := 140) hx hb dX7_reader_133 (by decide) (by with_reducible rfl) (by with_reducible rfl) (by omega) (by omega) (fun c_133 => ?_) (fun c_133 => ?_)
        | refine lv_icmp_ne (tgt := 140) hx hb dX7_reader_133 (by decide) (fun c_133 => ?_) (fun c_133 => ?_)
      · skip
        exact absurd rfl c_133
      · skip
        refine lv_iconst (v := nI 1) hx hb dX7_reader_136 (by decide) ?_
        refine lv_goto (tgt := 141) hx hb dX7_reader_137 (by decide) ?_
        refine kcV X hP hS (c_X7_seen l hI hW hW1 hW6 (by omega)) oJ v_X7_178 ⟨Nat.le_of_ble_eq_true rfl, Nat.le_of_ble_eq_true rfl, rfl, rfl⟩ rfl rfl (Nat.le_of_ble_eq_true rfl) hl.1 ⟨Nat.zero_le _, Nat.zero_le _⟩ dX7_reader_141 (fun r_141 G_141 H locs hR hP hS => ?_)
        obtain ⟨rfl, hG_141⟩ := hR
        rw [hG_141] at hP
        clear hG_141
        exact hret _ _ _ _ _ _ (⟨rfl, rdP_h hr hn4 (by rw [rdM, if_neg q_0, if_neg q_1, if_neg q_2, if_neg q_3, if_neg q_4, if_neg q_5, if_neg q_6, if_neg q_7, if_pos (rfl : nI 8 = nI 8)])⟩) hP hS dX7_reader_144
    by_cases q_9 : y = nI 9
    · skip
      subst q_9
      refine lv_tableIn (off := 117) (tgt := 128) hx hb dX7_reader_11 (by decide) (by decide) rfl (by decide) ?_
      refine lv_aload_n hx hb dX7_reader_128 rfl (lv_at hl 0 rfl) ?_
      refine lv_iload_n hx hb dX7_reader_129 rfl (lv_at hl 1 rfl) ?_
      refine lv_iload_n hx hb dX7_reader_130 rfl (lv_at hl 2 rfl) ?_
      refine lv_bipush (v := nI 8) hx hb dX7_reader_131 (by decide) ?_
      first
        | refine kic_ne (tgt := 140) hx hb dX7_reader_133 (by decide) (by with_reducible rfl) (by with_reducible rfl) (by omega) (by omega) (fun c_133 => ?_) (fun c_133 => ?_)
        | refine lv_icmp_ne (tgt := 140) hx hb dX7_reader_133 (by decide) (fun c_133 => ?_) (fun c_133 => ?_)
      · skip
        refine lv_iconst (v := nI 0) hx hb dX7_reader_140 (by decide) ?_
        refine kcV X hP hS (c_X7_seen l hI hW hW1 hW6 (by omega)) oJ v_X7_178 ⟨Nat.le_of_ble_eq_true rfl, Nat.le_of_ble_eq_true rfl, rfl, rfl⟩ rfl rfl (Nat.le_of_ble_eq_true rfl) hl.1 ⟨Nat.zero_le _, Nat.zero_le _⟩ dX7_reader_141 (fun r_141 G_141 H locs hR hP hS => ?_)
        obtain ⟨rfl, hG_141⟩ := hR
        rw [hG_141] at hP
        clear hG_141
        exact hret _ _ _ _ _ _ (⟨rfl, rdP_h hr hn4 (by rw [rdM, if_neg q_0, if_neg q_1, if_neg q_2, if_neg q_3, if_neg q_4, if_neg q_5, if_neg q_6, if_neg q_7, if_neg q_8, if_pos (rfl : nI 9 = nI 9)])⟩) hP hS dX7_reader_144
      · skip
        exact absurd c_133 (by decide)
    by_cases q_10 : y = nI 10
    · skip
      subst q_10
      refine lv_tableIn (off := 134) (tgt := 145) hx hb dX7_reader_11 (by decide) (by decide) rfl (by decide) ?_
      refine lv_aload_n hx hb dX7_reader_145 rfl (lv_at hl 0 rfl) ?_
      refine lv_iload_n hx hb dX7_reader_146 rfl (lv_at hl 1 rfl) ?_
      refine kcV X hP hS (c_X7_isOpen l hI (by first | assumption | omega)) oJ v_X7_64 ⟨Nat.le_of_ble_eq_true rfl, Nat.le_of_ble_eq_true rfl, rfl, rfl⟩ rfl rfl (Nat.le_of_ble_eq_true rfl) hl.1 ⟨Nat.zero_le _, Nat.zero_le _⟩ dX7_reader_147 (fun r_147 G_147 H locs hR hP hS => ?_)
      obtain ⟨rfl, hG_147⟩ := hR
      rw [hG_147] at hP
      clear hG_147
      first
        | refine kif_eq (tgt := 165) hx hb dX7_reader_150 (by decide) (fun c_150 => ?_) (fun c_150 => ?_)
        | refine lv_if_eq (tgt := 165) hx hb dX7_reader_150 (by decide) (fun c_150 => ?_) (fun c_150 => ?_)
      · skip
        refine lv_iconst (v := nI 0) hx hb dX7_reader_165 (by decide) ?_
        exact hret _ _ _ _ _ _ (⟨rfl, rdP_h hr hn4 (by rw [rdM, if_neg q_0, if_neg q_1, if_neg q_2, if_neg q_3, if_neg q_4, if_neg q_5, if_neg q_6, if_neg q_7, if_neg q_8, if_neg q_9, if_pos (rfl : nI 10 = nI 10), if_neg (fun z => c_150 z.1)])⟩) hP hS dX7_reader_166
      · skip
        refine lv_aload_n hx hb dX7_reader_153 rfl (lv_at hl 0 rfl) ?_
        refine lv_iload_n hx hb dX7_reader_154 rfl (lv_at hl 1 rfl) ?_
        refine kcV X hP hS (c_X7_hasConflict l hI hW hW1 hW6 (by omega)) oJ v_X7_130 ⟨Nat.le_of_ble_eq_true rfl, Nat.le_of_ble_eq_true rfl, rfl, rfl⟩ rfl rfl (Nat.le_of_ble_eq_true rfl) hl.1 ⟨Nat.zero_le _, Nat.zero_le _⟩ dX7_reader_155 (fun r_155 G_155 H locs hR hP hS => ?_)
        obtain ⟨rfl, hG_155⟩ := hR
        rw [hG_155] at hP
        clear hG_155
        first
          | refine kif_eq (tgt := 165) hx hb dX7_reader_158 (by decide) (fun c_158 => ?_) (fun c_158 => ?_)
          | refine lv_if_eq (tgt := 165) hx hb dX7_reader_158 (by decide) (fun c_158 => ?_) (fun c_158 => ?_)
        · skip
          refine lv_iconst (v := nI 0) hx hb dX7_reader_165 (by decide) ?_
          exact hret _ _ _ _ _ _ (⟨rfl, rdP_h hr hn4 (by rw [rdM, if_neg q_0, if_neg q_1, if_neg q_2, if_neg q_3, if_neg q_4, if_neg q_5, if_neg q_6, if_neg q_7, if_neg q_8, if_neg q_9, if_pos (rfl : nI 10 = nI 10), if_neg (fun z => c_158 z.2)])⟩) hP hS dX7_reader_166
        · skip
          refine lv_iconst (v := nI 1) hx hb dX7_reader_161 (by decide) ?_
          refine lv_goto (tgt := 166) hx hb dX7_reader_162 (by decide) ?_
          exact hret _ _ _ _ _ _ (⟨rfl, rdP_h hr hn4 (by rw [rdM, if_neg q_0, if_neg q_1, if_neg q_2, if_neg q_3, if_neg q_4, if_neg q_5, if_neg q_6, if_neg q_7, if_neg q_8, if_neg q_9, if_pos (rfl : nI 10 = nI 10), if_pos ⟨c_150, c_158⟩])⟩) hP hS dX7_reader_166
    by_cases q_11 : y = nI 11
    · skip
      subst q_11
      refine lv_tableIn (off := 156) (tgt := 167) hx hb dX7_reader_11 (by decide) (by decide) rfl (by decide) ?_
      refine lv_aload_n hx hb dX7_reader_167 rfl (lv_at hl 0 rfl) ?_
      refine lv_iload_n hx hb dX7_reader_168 rfl (lv_at hl 1 rfl) ?_
      refine kcV X hP hS (c_X7_isOpen l hI (by first | assumption | omega)) oJ v_X7_64 ⟨Nat.le_of_ble_eq_true rfl, Nat.le_of_ble_eq_true rfl, rfl, rfl⟩ rfl rfl (Nat.le_of_ble_eq_true rfl) hl.1 ⟨Nat.zero_le _, Nat.zero_le _⟩ dX7_reader_169 (fun r_169 G_169 H locs hR hP hS => ?_)
      obtain ⟨rfl, hG_169⟩ := hR
      rw [hG_169] at hP
      clear hG_169
      first
        | refine kif_eq (tgt := 183) hx hb dX7_reader_172 (by decide) (fun c_172 => ?_) (fun c_172 => ?_)
        | refine lv_if_eq (tgt := 183) hx hb dX7_reader_172 (by decide) (fun c_172 => ?_) (fun c_172 => ?_)
      · skip
        refine lv_iconst (v := nI 0) hx hb dX7_reader_183 (by decide) ?_
        exact hret _ _ _ _ _ _ (⟨rfl, rdP_h hr hn4 (by rw [rdM, if_neg q_0, if_neg q_1, if_neg q_2, if_neg q_3, if_neg q_4, if_neg q_5, if_neg q_6, if_neg q_7, if_neg q_8, if_neg q_9, if_neg q_10, if_pos (rfl : nI 11 = nI 11), if_neg c_172])⟩) hP hS dX7_reader_184
      · skip
        refine lv_aload_n hx hb dX7_reader_175 rfl (lv_at hl 0 rfl) ?_
        refine lv_iload_n hx hb dX7_reader_176 rfl (lv_at hl 1 rfl) ?_
        refine kcV X hP hS (c_X7_skewsOf l hI hk hk4 (by omega)) oJ v_X7_133 ⟨Nat.le_of_ble_eq_true rfl, Nat.le_of_ble_eq_true rfl, rfl, rfl⟩ rfl rfl (Nat.le_of_ble_eq_true rfl) hl.1 ⟨Nat.zero_le _, Nat.zero_le _⟩ dX7_reader_177 (fun r_177 G_177 H locs hR hP hS => ?_)
        obtain ⟨rfl, hG_177⟩ := hR
        rw [hG_177] at hP
        clear hG_177
        refine lv_goto (tgt := 184) hx hb dX7_reader_180 (by decide) ?_
        exact hret _ _ _ _ _ _ (⟨rfl, rdP_h hr hn4 (by rw [rdM, if_neg q_0, if_neg q_1, if_neg q_2, if_neg q_3, if_neg q_4, if_neg q_5, if_neg q_6, if_neg q_7, if_neg q_8, if_neg q_9, if_neg q_10, if_pos (rfl : nI 11 = nI 11), if_pos c_172])⟩) hP hS dX7_reader_184
    refine lv_tableOut (tgt := 185) hx hb dX7_reader_11 (tb_out 11 (by decide) (fun i hi => by
        rcases (show i = 0 ∨ i = 1 ∨ i = 2 ∨ i = 3 ∨ i = 4 ∨ i = 5 ∨ i = 6 ∨ i = 7 ∨ i = 8 ∨ i = 9 ∨ i = 10 ∨ i = 11 by omega) with rfl | rfl | rfl | rfl | rfl | rfl | rfl | rfl | rfl | rfl | rfl | rfl <;> assumption)) (by decide) ?_
    refine lv_bipush (v := (-2)) hx hb dX7_reader_185 (by decide) ?_
    exact hret _ _ _ _ _ _ (⟨rfl, rdP_h hr hn4 (by rw [rdM, if_neg q_0, if_neg q_1, if_neg q_2, if_neg q_3, if_neg q_4, if_neg q_5, if_neg q_6, if_neg q_7, if_neg q_8, if_neg q_9, if_neg q_10, if_neg q_11])⟩) hP hS dX7_reader_187
  · skip
    have hms := isR_no hn4 (by rw [hn] at c_5; exact c_5)
    refine lv_iconst (v := (-1)) hx hb dX7_reader_8 (by decide) ?_
    exact hret _ _ _ _ _ _ (⟨rfl, rdP_m hms rfl⟩) hP hS dX7_reader_9

set_option maxHeartbeats 4000000 in
set_option maxRecDepth 100000 in
theorem c_X7_count (l : Launch) {D : va_G} {τ : Nat → ClassId} {ad : Nat → Nat} (hI : kInj ad) {G : Nat → Nat → Int32} {Wn n k : Nat} {y : Int32} (hW : G 1 8 = nI Wn) (hn : G 1 2 = nI n) (hn4 : n ≤ 40) (hk : G 1 6 = nI k) (hk4 : k ≤ 40) : kM l yX7_count cX7_count 2 (some .int) { frames := 3, cells := 0, slots := 0, locals := 69 } D τ ad [.ref (ad 0), .int y] G (fun v G' => G' = G ∧ v = ctM G Wn n k y) := by
  refine kMet (own := RX7) (by decide) rfl (Nat.le_of_ble_eq_true rfl) ?_
  intro p9 e9 s9 m9 args9 below9 meth9 c9 Q9 X hx hb hP hS hret ls hl
  have hPs := hP
  have hl : lv_has ls 2 [(0, .ref (ad 0)), (1, .int y)] := hl
  refine lv_iload_n hx hb dX7_count_0 rfl (lv_at hl 1 rfl) ?_
  by_cases q_0 : y = nI 0
  · skip
    subst q_0
    refine lv_tableIn (off := 83) (tgt := 84) hx hb dX7_count_1 (by decide) (by decide) rfl (by decide) ?_
    refine lv_aload_n hx hb dX7_count_84 rfl (lv_at hl 0 rfl) ?_
    refine kget X hP oJ g_X7_7 rfl dX7_count_85 ?_
    refine lv_iload_n hx hb dX7_count_88 rfl (lv_at hl 1 rfl) ?_
    refine kiald X hP aJ1 (by omega) dX7_count_89 ?_
    exact hret _ _ _ _ _ _ (⟨rfl, by rw [ctM, if_pos (rfl : nI 0 = nI 0)]⟩) hP hS dX7_count_90
  by_cases q_1 : y = nI 1
  · skip
    subst q_1
    refine lv_tableIn (off := 83) (tgt := 84) hx hb dX7_count_1 (by decide) (by decide) rfl (by decide) ?_
    refine lv_aload_n hx hb dX7_count_84 rfl (lv_at hl 0 rfl) ?_
    refine kget X hP oJ g_X7_7 rfl dX7_count_85 ?_
    refine lv_iload_n hx hb dX7_count_88 rfl (lv_at hl 1 rfl) ?_
    refine kiald X hP aJ1 (by omega) dX7_count_89 ?_
    exact hret _ _ _ _ _ _ (⟨rfl, by rw [ctM, if_neg q_0, if_pos (rfl : nI 1 = nI 1)]⟩) hP hS dX7_count_90
  by_cases q_2 : y = nI 2
  · skip
    subst q_2
    refine lv_tableIn (off := 83) (tgt := 84) hx hb dX7_count_1 (by decide) (by decide) rfl (by decide) ?_
    refine lv_aload_n hx hb dX7_count_84 rfl (lv_at hl 0 rfl) ?_
    refine kget X hP oJ g_X7_7 rfl dX7_count_85 ?_
    refine lv_iload_n hx hb dX7_count_88 rfl (lv_at hl 1 rfl) ?_
    refine kiald X hP aJ1 (by omega) dX7_count_89 ?_
    exact hret _ _ _ _ _ _ (⟨rfl, by rw [ctM, if_neg q_0, if_neg q_1, if_pos (rfl : nI 2 = nI 2)]⟩) hP hS dX7_count_90
  by_cases q_3 : y = nI 3
  · skip
    subst q_3
    refine lv_tableIn (off := 90) (tgt := 91) hx hb dX7_count_1 (by decide) (by decide) rfl (by decide) ?_
    refine lv_aload_n hx hb dX7_count_91 rfl (lv_at hl 0 rfl) ?_
    refine lv_iload_n hx hb dX7_count_92 rfl (lv_at hl 1 rfl) ?_
    refine lv_iconst (v := nI 3) hx hb dX7_count_93 (by decide) ?_
    first
      | refine ksub hx hb dX7_count_94 (by with_reducible rfl) (by with_reducible rfl) (by omega) ?_
      | refine lv_isub hx hb dX7_count_94 ?_
    refine kcV X hP hS (c_X7_ofState l hI hn hn4) oJ v_X7_85 ⟨Nat.le_of_ble_eq_true rfl, Nat.le_of_ble_eq_true rfl, rfl, rfl⟩ rfl rfl (Nat.le_of_ble_eq_true rfl) hl.1 ⟨Nat.zero_le _, Nat.zero_le _⟩ dX7_count_95 (fun r_95 G_95 H locs hR hP hS => ?_)
    obtain ⟨rfl, hG_95⟩ := hR
    rw [hG_95] at hP
    clear hG_95
    exact hret _ _ _ _ _ _ (⟨rfl, by rw [ctM, if_neg q_0, if_neg q_1, if_neg q_2, if_pos (rfl : nI 3 = nI 3)]⟩) hP hS dX7_count_98
  by_cases q_4 : y = nI 4
  · skip
    subst q_4
    refine lv_tableIn (off := 90) (tgt := 91) hx hb dX7_count_1 (by decide) (by decide) rfl (by decide) ?_
    refine lv_aload_n hx hb dX7_count_91 rfl (lv_at hl 0 rfl) ?_
    refine lv_iload_n hx hb dX7_count_92 rfl (lv_at hl 1 rfl) ?_
    refine lv_iconst (v := nI 3) hx hb dX7_count_93 (by decide) ?_
    first
      | refine ksub hx hb dX7_count_94 (by with_reducible rfl) (by with_reducible rfl) (by omega) ?_
      | refine lv_isub hx hb dX7_count_94 ?_
    refine kcV X hP hS (c_X7_ofState l hI hn hn4) oJ v_X7_85 ⟨Nat.le_of_ble_eq_true rfl, Nat.le_of_ble_eq_true rfl, rfl, rfl⟩ rfl rfl (Nat.le_of_ble_eq_true rfl) hl.1 ⟨Nat.zero_le _, Nat.zero_le _⟩ dX7_count_95 (fun r_95 G_95 H locs hR hP hS => ?_)
    obtain ⟨rfl, hG_95⟩ := hR
    rw [hG_95] at hP
    clear hG_95
    exact hret _ _ _ _ _ _ (⟨rfl, by rw [ctM, if_neg q_0, if_neg q_1, if_neg q_2, if_neg q_3, if_pos (rfl : nI 4 = nI 4)]⟩) hP hS dX7_count_98
  by_cases q_5 : y = nI 5
  · skip
    subst q_5
    refine lv_tableIn (off := 90) (tgt := 91) hx hb dX7_count_1 (by decide) (by decide) rfl (by decide) ?_
    refine lv_aload_n hx hb dX7_count_91 rfl (lv_at hl 0 rfl) ?_
    refine lv_iload_n hx hb dX7_count_92 rfl (lv_at hl 1 rfl) ?_
    refine lv_iconst (v := nI 3) hx hb dX7_count_93 (by decide) ?_
    first
      | refine ksub hx hb dX7_count_94 (by with_reducible rfl) (by with_reducible rfl) (by omega) ?_
      | refine lv_isub hx hb dX7_count_94 ?_
    refine kcV X hP hS (c_X7_ofState l hI hn hn4) oJ v_X7_85 ⟨Nat.le_of_ble_eq_true rfl, Nat.le_of_ble_eq_true rfl, rfl, rfl⟩ rfl rfl (Nat.le_of_ble_eq_true rfl) hl.1 ⟨Nat.zero_le _, Nat.zero_le _⟩ dX7_count_95 (fun r_95 G_95 H locs hR hP hS => ?_)
    obtain ⟨rfl, hG_95⟩ := hR
    rw [hG_95] at hP
    clear hG_95
    exact hret _ _ _ _ _ _ (⟨rfl, by rw [ctM, if_neg q_0, if_neg q_1, if_neg q_2, if_neg q_3, if_neg q_4, if_pos (rfl : nI 5 = nI 5)]⟩) hP hS dX7_count_98
  by_cases q_6 : y = nI 6
  · skip
    subst q_6
    refine lv_tableIn (off := 90) (tgt := 91) hx hb dX7_count_1 (by decide) (by decide) rfl (by decide) ?_
    refine lv_aload_n hx hb dX7_count_91 rfl (lv_at hl 0 rfl) ?_
    refine lv_iload_n hx hb dX7_count_92 rfl (lv_at hl 1 rfl) ?_
    refine lv_iconst (v := nI 3) hx hb dX7_count_93 (by decide) ?_
    first
      | refine ksub hx hb dX7_count_94 (by with_reducible rfl) (by with_reducible rfl) (by omega) ?_
      | refine lv_isub hx hb dX7_count_94 ?_
    refine kcV X hP hS (c_X7_ofState l hI hn hn4) oJ v_X7_85 ⟨Nat.le_of_ble_eq_true rfl, Nat.le_of_ble_eq_true rfl, rfl, rfl⟩ rfl rfl (Nat.le_of_ble_eq_true rfl) hl.1 ⟨Nat.zero_le _, Nat.zero_le _⟩ dX7_count_95 (fun r_95 G_95 H locs hR hP hS => ?_)
    obtain ⟨rfl, hG_95⟩ := hR
    rw [hG_95] at hP
    clear hG_95
    exact hret _ _ _ _ _ _ (⟨rfl, by rw [ctM, if_neg q_0, if_neg q_1, if_neg q_2, if_neg q_3, if_neg q_4, if_neg q_5, if_pos (rfl : nI 6 = nI 6)]⟩) hP hS dX7_count_98
  by_cases q_7 : y = nI 7
  · skip
    subst q_7
    refine lv_tableIn (off := 98) (tgt := 99) hx hb dX7_count_1 (by decide) (by decide) rfl (by decide) ?_
    refine lv_aload_n hx hb dX7_count_99 rfl (lv_at hl 0 rfl) ?_
    refine kcV X hP hS (c_X7_oldMany l hI hW) oJ v_X7_139 ⟨Nat.le_of_ble_eq_true rfl, Nat.le_of_ble_eq_true rfl, rfl, rfl⟩ rfl rfl (Nat.le_of_ble_eq_true rfl) hl.1 ⟨Nat.zero_le _, Nat.zero_le _⟩ dX7_count_100 (fun r_100 G_100 H locs hR hP hS => ?_)
    obtain ⟨rfl, hG_100⟩ := hR
    rw [hG_100] at hP
    clear hG_100
    exact hret _ _ _ _ _ _ (⟨rfl, by rw [ctM, if_neg q_0, if_neg q_1, if_neg q_2, if_neg q_3, if_neg q_4, if_neg q_5, if_neg q_6, if_pos (rfl : nI 7 = nI 7)]⟩) hP hS dX7_count_103
  by_cases q_8 : y = nI 8
  · skip
    subst q_8
    refine lv_tableIn (off := 103) (tgt := 104) hx hb dX7_count_1 (by decide) (by decide) rfl (by decide) ?_
    refine lv_aload_n hx hb dX7_count_104 rfl (lv_at hl 0 rfl) ?_
    refine kget X hP oJ g_X7_7 rfl dX7_count_105 ?_
    refine lv_iconst (v := nI 3) hx hb dX7_count_108 (by decide) ?_
    refine kiald X hP aJ1 (by omega) dX7_count_109 ?_
    exact hret _ _ _ _ _ _ (⟨rfl, by rw [ctM, if_neg q_0, if_neg q_1, if_neg q_2, if_neg q_3, if_neg q_4, if_neg q_5, if_neg q_6, if_neg q_7, if_pos (rfl : nI 8 = nI 8)]⟩) hP hS dX7_count_110
  by_cases q_9 : y = nI 9
  · skip
    subst q_9
    refine lv_tableIn (off := 110) (tgt := 111) hx hb dX7_count_1 (by decide) (by decide) rfl (by decide) ?_
    refine lv_aload_n hx hb dX7_count_111 rfl (lv_at hl 0 rfl) ?_
    refine kget X hP oJ g_X7_7 rfl dX7_count_112 ?_
    refine lv_iconst (v := nI 4) hx hb dX7_count_115 (by decide) ?_
    refine kiald X hP aJ1 (by omega) dX7_count_116 ?_
    exact hret _ _ _ _ _ _ (⟨rfl, by rw [ctM, if_neg q_0, if_neg q_1, if_neg q_2, if_neg q_3, if_neg q_4, if_neg q_5, if_neg q_6, if_neg q_7, if_neg q_8, if_pos (rfl : nI 9 = nI 9)]⟩) hP hS dX7_count_117
  by_cases q_10 : y = nI 10
  · skip
    subst q_10
    refine lv_tableIn (off := 117) (tgt := 118) hx hb dX7_count_1 (by decide) (by decide) rfl (by decide) ?_
    refine lv_aload_n hx hb dX7_count_118 rfl (lv_at hl 0 rfl) ?_
    refine kget X hP oJ g_X7_7 rfl dX7_count_119 ?_
    refine lv_iconst (v := nI 5) hx hb dX7_count_122 (by decide) ?_
    refine kiald X hP aJ1 (by omega) dX7_count_123 ?_
    exact hret _ _ _ _ _ _ (⟨rfl, by rw [ctM, if_neg q_0, if_neg q_1, if_neg q_2, if_neg q_3, if_neg q_4, if_neg q_5, if_neg q_6, if_neg q_7, if_neg q_8, if_neg q_9, if_pos (rfl : nI 10 = nI 10)]⟩) hP hS dX7_count_124
  by_cases q_11 : y = nI 11
  · skip
    subst q_11
    refine lv_tableIn (off := 124) (tgt := 125) hx hb dX7_count_1 (by decide) (by decide) rfl (by decide) ?_
    refine lv_aload_n hx hb dX7_count_125 rfl (lv_at hl 0 rfl) ?_
    refine kget X hP oJ g_X7_7 rfl dX7_count_126 ?_
    refine lv_bipush (v := nI 6) hx hb dX7_count_129 (by decide) ?_
    refine kiald X hP aJ1 (by omega) dX7_count_131 ?_
    exact hret _ _ _ _ _ _ (⟨rfl, by rw [ctM, if_neg q_0, if_neg q_1, if_neg q_2, if_neg q_3, if_neg q_4, if_neg q_5, if_neg q_6, if_neg q_7, if_neg q_8, if_neg q_9, if_neg q_10, if_pos (rfl : nI 11 = nI 11)]⟩) hP hS dX7_count_132
  by_cases q_12 : y = nI 12
  · skip
    subst q_12
    refine lv_tableIn (off := 132) (tgt := 133) hx hb dX7_count_1 (by decide) (by decide) rfl (by decide) ?_
    refine lv_aload_n hx hb dX7_count_133 rfl (lv_at hl 0 rfl) ?_
    refine kcV X hP hS (c_X7_pairs l hI hk hk4) oJ v_X7_102 ⟨Nat.le_of_ble_eq_true rfl, Nat.le_of_ble_eq_true rfl, rfl, rfl⟩ rfl rfl (Nat.le_of_ble_eq_true rfl) hl.1 ⟨Nat.zero_le _, Nat.zero_le _⟩ dX7_count_134 (fun r_134 G_134 H locs hR hP hS => ?_)
    obtain ⟨rfl, hG_134⟩ := hR
    rw [hG_134] at hP
    clear hG_134
    exact hret _ _ _ _ _ _ (⟨rfl, by rw [ctM, if_neg q_0, if_neg q_1, if_neg q_2, if_neg q_3, if_neg q_4, if_neg q_5, if_neg q_6, if_neg q_7, if_neg q_8, if_neg q_9, if_neg q_10, if_neg q_11, if_pos (rfl : nI 12 = nI 12)]⟩) hP hS dX7_count_137
  by_cases q_13 : y = nI 13
  · skip
    subst q_13
    refine lv_tableIn (off := 137) (tgt := 138) hx hb dX7_count_1 (by decide) (by decide) rfl (by decide) ?_
    refine lv_aload_n hx hb dX7_count_138 rfl (lv_at hl 0 rfl) ?_
    refine kget X hP oJ g_X7_7 rfl dX7_count_139 ?_
    refine lv_bipush (v := nI 7) hx hb dX7_count_142 (by decide) ?_
    refine kiald X hP aJ1 (by omega) dX7_count_144 ?_
    exact hret _ _ _ _ _ _ (⟨rfl, by rw [ctM, if_neg q_0, if_neg q_1, if_neg q_2, if_neg q_3, if_neg q_4, if_neg q_5, if_neg q_6, if_neg q_7, if_neg q_8, if_neg q_9, if_neg q_10, if_neg q_11, if_neg q_12, if_pos (rfl : nI 13 = nI 13)]⟩) hP hS dX7_count_145
  by_cases q_14 : y = nI 14
  · skip
    subst q_14
    refine lv_tableIn (off := 145) (tgt := 146) hx hb dX7_count_1 (by decide) (by decide) rfl (by decide) ?_
    refine lv_aload_n hx hb dX7_count_146 rfl (lv_at hl 0 rfl) ?_
    refine kcV X hP hS (c_X7_widows l hI hn hn4) oJ v_X7_181 ⟨Nat.le_of_ble_eq_true rfl, Nat.le_of_ble_eq_true rfl, rfl, rfl⟩ rfl rfl (Nat.le_of_ble_eq_true rfl) hl.1 ⟨Nat.zero_le _, Nat.zero_le _⟩ dX7_count_147 (fun r_147 G_147 H locs hR hP hS => ?_)
    obtain ⟨rfl, hG_147⟩ := hR
    rw [hG_147] at hP
    clear hG_147
    exact hret _ _ _ _ _ _ (⟨rfl, by rw [ctM, if_neg q_0, if_neg q_1, if_neg q_2, if_neg q_3, if_neg q_4, if_neg q_5, if_neg q_6, if_neg q_7, if_neg q_8, if_neg q_9, if_neg q_10, if_neg q_11, if_neg q_12, if_neg q_13, if_pos (rfl : nI 14 = nI 14)]⟩) hP hS dX7_count_150
  by_cases q_15 : y = nI 15
  · skip
    subst q_15
    refine lv_tableIn (off := 150) (tgt := 151) hx hb dX7_count_1 (by decide) (by decide) rfl (by decide) ?_
    refine lv_aload_n hx hb dX7_count_151 rfl (lv_at hl 0 rfl) ?_
    refine kget X hP oJ g_X7_36 rfl dX7_count_152 ?_
    exact hret _ _ _ _ _ _ (⟨rfl, by rw [ctM, if_neg q_0, if_neg q_1, if_neg q_2, if_neg q_3, if_neg q_4, if_neg q_5, if_neg q_6, if_neg q_7, if_neg q_8, if_neg q_9, if_neg q_10, if_neg q_11, if_neg q_12, if_neg q_13, if_neg q_14, if_pos (rfl : nI 15 = nI 15)]⟩) hP hS dX7_count_155
  by_cases q_16 : y = nI 16
  · skip
    subst q_16
    refine lv_tableIn (off := 155) (tgt := 156) hx hb dX7_count_1 (by decide) (by decide) rfl (by decide) ?_
    refine lv_aload_n hx hb dX7_count_156 rfl (lv_at hl 0 rfl) ?_
    refine kget X hP oJ g_X7_145 rfl dX7_count_157 ?_
    exact hret _ _ _ _ _ _ (⟨rfl, by rw [ctM, if_neg q_0, if_neg q_1, if_neg q_2, if_neg q_3, if_neg q_4, if_neg q_5, if_neg q_6, if_neg q_7, if_neg q_8, if_neg q_9, if_neg q_10, if_neg q_11, if_neg q_12, if_neg q_13, if_neg q_14, if_neg q_15, if_pos (rfl : nI 16 = nI 16)]⟩) hP hS dX7_count_160
  refine lv_tableOut (tgt := 161) hx hb dX7_count_1 (tb_out 16 (by decide) (fun i hi => by
      rcases (show i = 0 ∨ i = 1 ∨ i = 2 ∨ i = 3 ∨ i = 4 ∨ i = 5 ∨ i = 6 ∨ i = 7 ∨ i = 8 ∨ i = 9 ∨ i = 10 ∨ i = 11 ∨ i = 12 ∨ i = 13 ∨ i = 14 ∨ i = 15 ∨ i = 16 by omega) with rfl | rfl | rfl | rfl | rfl | rfl | rfl | rfl | rfl | rfl | rfl | rfl | rfl | rfl | rfl | rfl | rfl <;> assumption)) (by decide) ?_
  refine lv_bipush (v := (-2)) hx hb dX7_count_161 (by decide) ?_
  exact hret _ _ _ _ _ _ (⟨rfl, by rw [ctM, if_neg q_0, if_neg q_1, if_neg q_2, if_neg q_3, if_neg q_4, if_neg q_5, if_neg q_6, if_neg q_7, if_neg q_8, if_neg q_9, if_neg q_10, if_neg q_11, if_neg q_12, if_neg q_13, if_neg q_14, if_neg q_15, if_neg q_16]⟩) hP hS dX7_count_163

set_option maxHeartbeats 4000000 in
set_option maxRecDepth 100000 in
theorem c_X7_version (l : Launch) {D : va_G} {τ : Nat → ClassId} {ad : Nat → Nat} (hI : kInj ad) {G : Nat → Nat → Int32} {Wn n : Nat} {x p y : Int32} (hW : G 1 8 = nI Wn) (hW1 : 1 ≤ Wn) (hW6 : Wn ≤ 64) (hn : G 1 2 = nI n) (hn4 : n ≤ 40) : kM l yX7_version cX7_version 6 (some .int) { frames := 5, cells := 0, slots := 0, locals := 116 } D τ ad [.ref (ad 0), .int x, .int p, .int y] G (fun v G' => G' = G ∧ rdP 12 x (v = -1) (fun c => if ¬ p < 0 ∧ (nI 0 ≤ y ∧ y ≤ nI 4) then (if nI (vcM (G 1) Wn c) ≤ p then v = -5 else v = vrM (G 1) Wn n (vwF (G 1) Wn c p.toNatClampNeg) p y) else v = -2)) := by
  refine kMet (own := RX7) (by decide) rfl (Nat.le_of_ble_eq_true rfl) ?_
  intro p9 e9 s9 m9 args9 below9 meth9 c9 Q9 X hx hb hP hS hret ls hl
  have hPs := hP
  have hl : lv_has ls 6 [(0, .ref (ad 0)), (1, .int x), (2, .int p), (3, .int y)] := hl
  refine lv_iload_n hx hb dX7_version_0 rfl (lv_at hl 1 rfl) ?_
  refine kcS X hP hS (c_X7_isCell l hI) v_X7_108 ⟨Nat.le_of_ble_eq_true rfl, Nat.le_of_ble_eq_true rfl, rfl, rfl⟩ rfl rfl (Nat.le_of_ble_eq_true rfl) hl.1 ⟨Nat.zero_le _, Nat.zero_le _⟩ dX7_version_1 (fun r_1 G_1 H locs hR hP hS => ?_)
  obtain ⟨rfl, hG_1⟩ := hR
  rw [hG_1] at hP
  clear hG_1
  first
    | refine kif_ne (tgt := 9) hx hb dX7_version_4 (by decide) (fun c_4 => ?_) (fun c_4 => ?_)
    | refine lv_if_ne (tgt := 9) hx hb dX7_version_4 (by decide) (fun c_4 => ?_) (fun c_4 => ?_)
  · skip
    obtain ⟨c, hc, rfl⟩ := isC_yes c_4
    refine lv_iload_n hx hb dX7_version_9 rfl (lv_at hl 2 rfl) ?_
    refine lv_if_lt (tgt := 22) hx hb dX7_version_10 (by decide) (fun c_10 => ?_) (fun c_10 => ?_)
    · skip
      refine lv_bipush (v := (-2)) hx hb dX7_version_22 (by decide) ?_
      exact hret _ _ _ _ _ _ (⟨rfl, rdP_h hc (by omega) (by rw [if_neg (fun z => z.1 c_10)])⟩) hP hS dX7_version_24
    · skip
      refine lv_iload_n hx hb dX7_version_13 rfl (lv_at hl 3 rfl) ?_
      refine lv_iconst (v := nI 0) hx hb dX7_version_14 (by decide) ?_
      refine lv_iconst (v := nI 4) hx hb dX7_version_15 (by decide) ?_
      refine kcS X hP hS (c_X7_isIn l hI) v_X7_28 ⟨Nat.le_of_ble_eq_true rfl, Nat.le_of_ble_eq_true rfl, rfl, rfl⟩ rfl rfl (Nat.le_of_ble_eq_true rfl) hl.1 ⟨Nat.zero_le _, Nat.zero_le _⟩ dX7_version_16 (fun r_16 G_16 H locs hR hP hS => ?_)
      obtain ⟨rfl, hG_16⟩ := hR
      rw [hG_16] at hP
      clear hG_16
      first
        | refine kif_ne (tgt := 25) hx hb dX7_version_19 (by decide) (fun c_19 => ?_) (fun c_19 => ?_)
        | refine lv_if_ne (tgt := 25) hx hb dX7_version_19 (by decide) (fun c_19 => ?_) (fun c_19 => ?_)
      · skip
        refine lv_iload_n hx hb dX7_version_25 rfl (lv_at hl 2 rfl) ?_
        refine lv_aload_n hx hb dX7_version_26 rfl (lv_at hl 0 rfl) ?_
        refine lv_iload_n hx hb dX7_version_27 rfl (lv_at hl 1 rfl) ?_
        refine kcV X hP hS (c_X7_versionsOf l hI hW hW1 hW6) oJ v_X7_172 ⟨Nat.le_of_ble_eq_true rfl, Nat.le_of_ble_eq_true rfl, rfl, rfl⟩ rfl rfl (Nat.le_of_ble_eq_true rfl) hl.1 ⟨Nat.zero_le _, Nat.zero_le _⟩ dX7_version_28 (fun r_28 G_28 H locs hR hP hS => ?_)
        obtain ⟨rfl, hG_28⟩ := hR
        rw [hG_28] at hP
        clear hG_28
        rw [show cn (fun q => if G 1 (809 + 3 * q + 0) = nI c then 1 else 0) Wn = vcM (G 1) Wn c from rfl]
        have hvc : vcM (G 1) Wn c ≤ Wn := cn_le (fun i _ => by split <;> omega)
        first
          | refine kic_lt (tgt := 37) hx hb dX7_version_31 (by decide) (by with_reducible rfl) (by with_reducible rfl) (by omega) (by omega) (fun c_31 => ?_) (fun c_31 => ?_)
          | refine lv_icmp_lt (tgt := 37) hx hb dX7_version_31 (by decide) (fun c_31 => ?_) (fun c_31 => ?_)
        · skip
          obtain ⟨P, hP1, rfl⟩ := nI_of (x := p) c_10
          have hPc : P < vcM (G 1) Wn c := (nI_ltI hP1 (by omega)).mp c_31
          refine lv_aload_n hx hb dX7_version_37 rfl (lv_at hl 0 rfl) ?_
          refine lv_iload_n hx hb dX7_version_38 rfl (lv_at hl 1 rfl) ?_
          refine kcV X hP hS (c_X7_newest l hI hW hW1 hW6) oJ v_X7_60 ⟨Nat.le_of_ble_eq_true rfl, Nat.le_of_ble_eq_true rfl, rfl, rfl⟩ rfl rfl (Nat.le_of_ble_eq_true rfl) hl.1 ⟨Nat.zero_le _, Nat.zero_le _⟩ dX7_version_39 (fun r_39 G_39 H locs hR hP hS => ?_)
          obtain ⟨rfl, hG_39⟩ := hR
          rw [hG_39] at hP
          clear hG_39
          refine kistW hx hb dX7_version_42 hl (by decide) (kp_4_4 rfl) (fun ls hl => ?_)
          refine lv_iconst (v := nI 0) hx hb dX7_version_44 (by decide) ?_
          refine kistW hx hb dX7_version_45 hl (by decide) (kp_5_5 rfl) (fun ls hl => ?_)
          have lp_47 : ∀ (d : Nat) (a i : Nat) (H : Heap) (locs : List Loc) (ls : Array Slot), (P - i) < d → (i ≤ P) → (a = vwF (G 1) Wn c i) → (a < Wn) → va_P D vwCl (kW τ ad G) H → va_S (kAd ad) s9.heap H locs → lv_has ls 6 [(0, .ref (ad 0)), (1, .int (nI c)), (2, .int (nI P)), (3, .int y), (4, .int (nI a)), (5, .int (nI i))] → W p9 l e9 { frames := 5, cells := 0, slots := 0, locals := 116 } s9 m9 args9 below9 meth9 c9 H locs 0 0 Q9 (F0 m9 47 ls []) := by
            intro d
            induction d with
            | zero => exact fun _ _ _ _ _ hd => absurd hd (Nat.not_lt_zero _)
            | succ d ih_47 =>
              intro a i H locs ls hd iv_0 iv_1 iv_2 hP hS hl
              refine lv_iload hx hb dX7_version_47 (lv_at hl 5 rfl) ?_
              refine lv_iload_n hx hb dX7_version_49 rfl (lv_at hl 2 rfl) ?_
              first
                | refine kic_ge (tgt := 75) hx hb dX7_version_50 (by decide) (by with_reducible rfl) (by with_reducible rfl) (by omega) (by omega) (fun c_50 => ?_) (fun c_50 => ?_)
                | refine lv_icmp_ge (tgt := 75) hx hb dX7_version_50 (by decide) (fun c_50 => ?_) (fun c_50 => ?_)
              · skip
                refine lv_iload_n hx hb dX7_version_75 rfl (lv_at hl 3 rfl) ?_
                by_cases q_0 : y = nI 0
                · skip
                  subst q_0
                  refine lv_tableIn (off := 32) (tgt := 108) hx hb dX7_version_76 (by decide) (by decide) rfl (by decide) ?_
                  refine lv_aload_n hx hb dX7_version_108 rfl (lv_at hl 0 rfl) ?_
                  refine lv_iload hx hb dX7_version_109 (lv_at hl 4 rfl) ?_
                  refine lv_iconst (v := nI 2) hx hb dX7_version_111 (by decide) ?_
                  refine kcV X hP hS (c_X7_ofV l hI (by first | assumption | omega)) oJ v_X7_54 ⟨Nat.le_of_ble_eq_true rfl, Nat.le_of_ble_eq_true rfl, rfl, rfl⟩ rfl rfl (Nat.le_of_ble_eq_true rfl) hl.1 ⟨Nat.zero_le _, Nat.zero_le _⟩ dX7_version_112 (fun r_112 G_112 H locs hR hP hS => ?_)
                  obtain ⟨rfl, hG_112⟩ := hR
                  rw [hG_112] at hP
                  clear hG_112
                  exact hret _ _ _ _ _ _ (⟨rfl, rdP_h hc (by omega) (by rw [if_pos ⟨c_10, c_19⟩, if_neg (Int32.not_le.mpr c_31), nI_clamp hP1, show P = i by omega, ← iv_1, vrM, if_pos (rfl : nI 0 = nI 0)])⟩) hP hS dX7_version_115
                by_cases q_1 : y = nI 1
                · skip
                  subst q_1
                  refine lv_tableIn (off := 40) (tgt := 116) hx hb dX7_version_76 (by decide) (by decide) rfl (by decide) ?_
                  refine lv_aload_n hx hb dX7_version_116 rfl (lv_at hl 0 rfl) ?_
                  refine lv_iload hx hb dX7_version_117 (lv_at hl 4 rfl) ?_
                  refine lv_iconst (v := nI 1) hx hb dX7_version_119 (by decide) ?_
                  refine kcV X hP hS (c_X7_ofV l hI (by first | assumption | omega)) oJ v_X7_54 ⟨Nat.le_of_ble_eq_true rfl, Nat.le_of_ble_eq_true rfl, rfl, rfl⟩ rfl rfl (Nat.le_of_ble_eq_true rfl) hl.1 ⟨Nat.zero_le _, Nat.zero_le _⟩ dX7_version_120 (fun r_120 G_120 H locs hR hP hS => ?_)
                  obtain ⟨rfl, hG_120⟩ := hR
                  rw [hG_120] at hP
                  clear hG_120
                  exact hret _ _ _ _ _ _ (⟨rfl, rdP_h hc (by omega) (by rw [if_pos ⟨c_10, c_19⟩, if_neg (Int32.not_le.mpr c_31), nI_clamp hP1, show P = i by omega, ← iv_1, vrM, if_neg q_0, if_pos (rfl : nI 1 = nI 1)])⟩) hP hS dX7_version_123
                by_cases q_2 : y = nI 2
                · skip
                  subst q_2
                  refine lv_tableIn (off := 48) (tgt := 124) hx hb dX7_version_76 (by decide) (by decide) rfl (by decide) ?_
                  refine lv_aload_n hx hb dX7_version_124 rfl (lv_at hl 0 rfl) ?_
                  refine lv_iload hx hb dX7_version_125 (lv_at hl 4 rfl) ?_
                  refine lv_iconst (v := nI 1) hx hb dX7_version_127 (by decide) ?_
                  refine kcV X hP hS (c_X7_seenBy l hI (w := nI 1) hW hW1 hW6 hn hn4 (by omega)) oJ v_X7_75 ⟨Nat.le_of_ble_eq_true rfl, Nat.le_of_ble_eq_true rfl, rfl, rfl⟩ rfl rfl (Nat.le_of_ble_eq_true rfl) hl.1 ⟨Nat.zero_le _, Nat.zero_le _⟩ dX7_version_128 (fun r_128 G_128 H locs hR hP hS => ?_)
                  obtain ⟨rfl, hG_128⟩ := hR
                  rw [hG_128] at hP
                  clear hG_128
                  exact hret _ _ _ _ _ _ (⟨rfl, rdP_h hc (by omega) (by rw [if_pos ⟨c_10, c_19⟩, if_neg (Int32.not_le.mpr c_31), nI_clamp hP1, show P = i by omega, ← iv_1, vrM, if_neg q_0, if_neg q_1, if_pos (rfl : nI 2 = nI 2)])⟩) hP hS dX7_version_131
                by_cases q_3 : y = nI 3
                · skip
                  subst q_3
                  refine lv_tableIn (off := 56) (tgt := 132) hx hb dX7_version_76 (by decide) (by decide) rfl (by decide) ?_
                  refine lv_aload_n hx hb dX7_version_132 rfl (lv_at hl 0 rfl) ?_
                  refine lv_iload hx hb dX7_version_133 (lv_at hl 4 rfl) ?_
                  refine lv_iconst (v := nI 0) hx hb dX7_version_135 (by decide) ?_
                  refine kcV X hP hS (c_X7_seenBy l hI (w := nI 0) hW hW1 hW6 hn hn4 (by omega)) oJ v_X7_75 ⟨Nat.le_of_ble_eq_true rfl, Nat.le_of_ble_eq_true rfl, rfl, rfl⟩ rfl rfl (Nat.le_of_ble_eq_true rfl) hl.1 ⟨Nat.zero_le _, Nat.zero_le _⟩ dX7_version_136 (fun r_136 G_136 H locs hR hP hS => ?_)
                  obtain ⟨rfl, hG_136⟩ := hR
                  rw [hG_136] at hP
                  clear hG_136
                  exact hret _ _ _ _ _ _ (⟨rfl, rdP_h hc (by omega) (by rw [if_pos ⟨c_10, c_19⟩, if_neg (Int32.not_le.mpr c_31), nI_clamp hP1, show P = i by omega, ← iv_1, vrM, if_neg q_0, if_neg q_1, if_neg q_2, if_pos (rfl : nI 3 = nI 3)])⟩) hP hS dX7_version_139
                refine lv_tableOut (tgt := 140) hx hb dX7_version_76 (tb_out 3 (by decide) (fun i hi => by
                    rcases (show i = 0 ∨ i = 1 ∨ i = 2 ∨ i = 3 by omega) with rfl | rfl | rfl | rfl <;> assumption)) (by decide) ?_
                refine lv_iload_n hx hb dX7_version_140 rfl (lv_at hl 2 rfl) ?_
                first
                  | refine kif_ne (tgt := 148) hx hb dX7_version_141 (by decide) (fun c_141 => ?_) (fun c_141 => ?_)
                  | refine lv_if_ne (tgt := 148) hx hb dX7_version_141 (by decide) (fun c_141 => ?_) (fun c_141 => ?_)
                · skip
                  refine lv_aload_n hx hb dX7_version_148 rfl (lv_at hl 0 rfl) ?_
                  refine lv_iload hx hb dX7_version_149 (lv_at hl 4 rfl) ?_
                  refine kcV X hP hS (c_X7_rentOf l hI hW hW1 hW6 hn hn4 (by omega)) oJ v_X7_82 ⟨Nat.le_of_ble_eq_true rfl, Nat.le_of_ble_eq_true rfl, rfl, rfl⟩ rfl rfl (Nat.le_of_ble_eq_true rfl) hl.1 ⟨Nat.zero_le _, Nat.zero_le _⟩ dX7_version_151 (fun r_151 G_151 H locs hR hP hS => ?_)
                  obtain ⟨rfl, hG_151⟩ := hR
                  rw [hG_151] at hP
                  clear hG_151
                  exact hret _ _ _ _ _ _ (⟨rfl, rdP_h hc (by omega) (by rw [if_pos ⟨c_10, c_19⟩, if_neg (Int32.not_le.mpr c_31), nI_clamp hP1, show P = i by omega, ← iv_1, vrM, if_neg q_0, if_neg q_1, if_neg q_2, if_neg q_3, if_neg (show ¬ nI i = 0 from by rw [show i = P by omega]; exact c_141)])⟩) hP hS dX7_version_154
                · skip
                  refine lv_iconst (v := nI 0) hx hb dX7_version_144 (by decide) ?_
                  refine lv_goto (tgt := 154) hx hb dX7_version_145 (by decide) ?_
                  exact hret _ _ _ _ _ _ (⟨rfl, rdP_h hc (by omega) (by rw [if_pos ⟨c_10, c_19⟩, if_neg (Int32.not_le.mpr c_31), nI_clamp hP1, show P = i by omega, ← iv_1, vrM, if_neg q_0, if_neg q_1, if_neg q_2, if_neg q_3, if_pos (show nI i = 0 from by rw [show i = P by omega]; exact c_141)])⟩) hP hS dX7_version_154
              · skip
                refine lv_aload_n hx hb dX7_version_53 rfl (lv_at hl 0 rfl) ?_
                refine lv_iload_n hx hb dX7_version_54 rfl (lv_at hl 1 rfl) ?_
                refine lv_aload_n hx hb dX7_version_55 rfl (lv_at hl 0 rfl) ?_
                refine lv_iload hx hb dX7_version_56 (lv_at hl 4 rfl) ?_
                refine lv_iconst (v := nI 1) hx hb dX7_version_58 (by decide) ?_
                refine kcV X hP hS (c_X7_ofV l hI (by first | assumption | omega)) oJ v_X7_54 ⟨Nat.le_of_ble_eq_true rfl, Nat.le_of_ble_eq_true rfl, rfl, rfl⟩ rfl rfl (Nat.le_of_ble_eq_true rfl) hl.1 ⟨Nat.zero_le _, Nat.zero_le _⟩ dX7_version_59 (fun r_59 G_59 H locs hR hP hS => ?_)
                obtain ⟨rfl, hG_59⟩ := hR
                rw [hG_59] at hP
                clear hG_59
                refine lv_iconst (v := nI 1) hx hb dX7_version_62 (by decide) ?_
                refine lv_isub hx hb dX7_version_63 ?_
                refine kcV X hP hS (c_X7_versionAt l hI hW hW1 hW6) oJ v_X7_57 ⟨Nat.le_of_ble_eq_true rfl, Nat.le_of_ble_eq_true rfl, rfl, rfl⟩ rfl rfl (Nat.le_of_ble_eq_true rfl) hl.1 ⟨Nat.zero_le _, Nat.zero_le _⟩ dX7_version_64 (fun r_64 G_64 H locs hR hP hS => ?_)
                obtain ⟨rfl, hG_64⟩ := hR
                rw [hG_64] at hP
                clear hG_64
                refine kistW hx hb dX7_version_67 hl (by decide) (kp_6_4 rfl) (fun ls hl => ?_)
                first
                  | refine kinc (q := 5) hx hb dX7_version_69 hl rfl (by decide) (kp_6_5 rfl) (fun ls hl => ?_)
                  | refine kincG (q := 5) hx hb dX7_version_69 hl rfl (by decide) (kp_6_5 rfl) (fun ls hl => ?_)
                refine lv_goto (tgt := 47) hx hb dX7_version_72 (by decide) ?_
                exact ih_47 _ _ _ _ _ (by omega) (by omega) (by rw [vwF, ← iv_1]) (vA_lt hW1) hP hS (lv_sub hl [0,1,2,3,4,5] rfl)
          exact lp_47 _ _ 0 _ _ _ (Nat.lt_succ_self _) (Nat.zero_le _) (rfl) (vA_lt hW1) hP hS (lv_sub hl [0,1,2,3,4,5] rfl)
        · skip
          refine lv_bipush (v := (-5)) hx hb dX7_version_34 (by decide) ?_
          exact hret _ _ _ _ _ _ (⟨rfl, rdP_h hc (by omega) (by rw [if_pos ⟨c_10, c_19⟩, if_pos (Int32.not_lt.mp c_31)])⟩) hP hS dX7_version_36
      · skip
        refine lv_bipush (v := (-2)) hx hb dX7_version_22 (by decide) ?_
        exact hret _ _ _ _ _ _ (⟨rfl, rdP_h hc (by omega) (by rw [if_neg (fun z => c_19 z.2)])⟩) hP hS dX7_version_24
  · skip
    have hmc := isC_no c_4
    refine lv_iconst (v := (-1)) hx hb dX7_version_7 (by decide) ?_
    exact hret _ _ _ _ _ _ (⟨rfl, rdP_m hmc rfl⟩) hP hS dX7_version_8
