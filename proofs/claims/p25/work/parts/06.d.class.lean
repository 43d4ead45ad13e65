
def seC (G : Nat → Nat → Int32) (n c P : Nat) (q : Int32) : Int32 := nI (cn (fun i => if G (rN 0 i) 1 = 0 ∧ pf (G (cM 0 c)) (G (rN 0 i) 2) 0 P = q then 1 else 0) n)
def clC (G : Nat → Nat → Int32) (n : Nat) (P : Nat → Nat) (c : Nat) (y : Int32) : Int32 := if y = nI 0 then G (cV 0 c) 0 else if y = nI 1 then G (cM 0 c) 0 else if y = nI 2 then nI (P c) else if y = nI 3 then nI (cn (fun i => if G (rN 0 i) 1 = 0 ∧ pf (G (cM 0 c)) (G (rN 0 i) 2) 0 (P c) = nI 0 then 1 else 0) n) else if y = nI 4 then nI (cn (fun i => if G (rN 0 i) 1 = 0 ∧ hw (G (rN 0 i) 5) c then 1 else 0) n) else -2
def ctC (G : Nat → Nat → Int32) (n k : Nat) (P : Nat → Nat) (y : Int32) : Int32 := if y = nI 0 then G (sB 0) 3 else if y = nI 1 then G (sB 0) 4 else if y = nI 2 then G (sB 0) 6 else if y = nI 3 then nI (cn (fun i => if G (rN 0 i) 1 = nI 0 then 1 else 0) n) else if y = nI 4 then nI (cn (fun i => if G (rN 0 i) 1 = nI 1 then 1 else 0) n) else if y = nI 5 then nI (cn (fun i => if G (rN 0 i) 1 = nI 2 then 1 else 0) n) else if y = nI 6 then nI (cn (fun i => if G (rN 0 i) 1 = nI 3 then 1 else 0) n) else if y = nI 7 then nI (cn (fun c => P c - 1) 12) else if y = nI 8 then G (sB 0) 8 else if y = nI 9 then G (sB 0) 5 else if y = nI 10 then sm (fun i => G (rN 0 i) 7) n else if y = nI 11 then G (sB 0) 7 else if y = nI 12 then sm (fun q => G (mC 0 q) 5) k else if y = nI 13 then (if G (sB 0) 9 = 0 then nI 0 else nI 1) else if y = nI 14 then nI (cn (fun i => if G (rN 0 i) 1 = 0 ∧ 0 < G (rN 0 i) 6 then 1 else 0) n) else if y = nI 15 then G 8 1 else if y = nI 16 then G 10 1 else -2
def rdC (G : Nat → Nat → Int32) (n k : Nat) (P : Nat → Nat) (r : Nat) (y : Int32) : Int32 := if y = nI 0 then G (rN 0 r) 1 else if y = nI 1 then G (rN 0 r) 2 else if y = nI 2 then G (rN 0 r) 3 else if y = nI 3 then dueF G 0 n P r else if y = nI 4 then G (rN 0 r) 4 else if y = nI 5 then G (rN 0 r) 5 else if y = nI 6 then G (rN 0 r) 6 else if y = nI 7 then G (rN 0 r) 7 else if y = nI 8 then (if G (rN 0 r) 1 = 0 then nI (cn (fun c => if 0 < pf (G (cM 0 c)) (G (rN 0 r) 2) 0 (P c) then 1 else 0) 12) else nI 0) else if y = nI 9 then (if G (rN 0 r) 1 = 0 then sm (fun c => vsF (G (cV 0 c)) (G (cM 0 c)) (G (rN 0 r) 2) (P c)) 12 else nI 0) else if y = nI 10 then (if G (rN 0 r) 1 = 0 ∧ cn (cfF G 0 r) 12 ≠ 0 then nI 1 else nI 0) else if y = nI 11 then (if G (rN 0 r) 1 = 0 then nI (cn (fun q => if skF (G (mC 0 q)) (G (rN 0 r)) then 1 else 0) k) else nI 0) else -2
set_option maxHeartbeats 4000000 in
set_option maxRecDepth 100000 in
theorem c_X6_forbidSkew (l : Launch) {D : va_G} {τ : Nat → ClassId} {ad : Nat → Nat} (hI : kInj ad) {G : Nat → Nat → Int32} {n k L b : Nat} {pi : Nat → Nat} (hL : G 8 1 = nI L) (hL4 : L ≤ 4) (hpi : ∀ t, t < 4 → G 9 t = nI (pi t) ∧ pi t < 7) (hne : ∀ t, t < 4 → pi t ≠ 0) (hn : G (sB 0) 6 = nI n) (hn4 : n ≤ 40) (hk : G (sB 0) 7 = nI k) (hk4 : k ≤ 40) (hz : ∀ r, r < n → G (rN 0 r) 8 = 0 ∨ G (rN 0 r) 8 = 1) (hy : G (sB 0) 9 = 0 ∨ G (sB 0) 9 = 1) (hb1 : b ≤ 1) : kM l yX6_forbidSkew cX6_forbidSkew 2 (some .int) { frames := 4, cells := 0, slots := 0, locals := 104 } D τ ad [.ref (ad 7), .int (nI b)] G (fun v G' => if nI b = G (sB 0) 9 then v = -5 ∧ G' = G else ∃ Gr, rcR G Gr pi L n k ∧ G' = gs Gr (sB 0) 9 (nI b) ∧ v = sm (fun q => gs Gr (sB 0) 9 (nI b) (mC 0 q) 5) k) := by
  refine kMet (own := RX6) (by decide) rfl (Nat.le_of_ble_eq_true rfl) ?_
  intro p9 e9 s9 m9 args9 below9 meth9 c9 Q9 X hx hb hP hS hret ls hl
  have hPs := hP
  have hl : lv_has ls 2 [(0, .ref (ad 7)), (1, .int (nI b))] := hl
  refine lv_iload_n hx hb dX6_forbidSkew_0 rfl (lv_at hl 1 rfl) ?_
  refine lv_aload_n hx hb dX6_forbidSkew_1 rfl (lv_at hl 0 rfl) ?_
  refine kget X hP oX g_X6_12 rfl dX6_forbidSkew_2 ?_
  refine kget X hP (oS (j := 0) (by omega)) g_X6_89 rfl dX6_forbidSkew_5 ?_
  first
    | refine kic_ne (tgt := 14) hx hb dX6_forbidSkew_8 (by decide) (by with_reducible rfl) (by with_reducible rfl) (by omega) (by omega) (fun c_8 => ?_) (fun c_8 => ?_)
    | refine lv_icmp_ne (tgt := 14) hx hb dX6_forbidSkew_8 (by decide) (fun c_8 => ?_) (fun c_8 => ?_)
  · skip
    refine lv_aload_n hx hb dX6_forbidSkew_14 rfl (lv_at hl 0 rfl) ?_
    refine kget X hP oX g_X6_25 rfl dX6_forbidSkew_15 ?_
    refine lv_aload_n hx hb dX6_forbidSkew_18 rfl (lv_at hl 0 rfl) ?_
    refine kget X hP oX g_X6_12 rfl dX6_forbidSkew_19 ?_
    refine kcVv X hP hS (c_X2_record l hI (j := 0) (n := n) (k := k) (L := L) (pi := pi) (by omega) hL hL4 hpi hne hn hn4 hk hk4 hz hy) oH v_X6_44 ⟨Nat.le_of_ble_eq_true rfl, Nat.le_of_ble_eq_true rfl, rfl, rfl⟩ rfl rfl (Nat.le_of_ble_eq_true rfl) hl.1 ⟨Nat.zero_le _, Nat.zero_le _⟩ dX6_forbidSkew_22 (fun G_22 H locs hR hP hS => ?_)
    have h_22 : rcR G G_22 pi L n k := hR
    have e0 := rcR_0 h_22 hL4 hne
    refine lv_aload_n hx hb dX6_forbidSkew_25 rfl (lv_at hl 0 rfl) ?_
    refine kget X hP oX g_X6_12 rfl dX6_forbidSkew_26 ?_
    refine lv_iload_n hx hb dX6_forbidSkew_29 rfl (lv_at hl 1 rfl) ?_
    have hzb : ∀ q : Int32, q = nI b → narrow (tyX4 9) (.int q) = .int q ∧ fits (tyX4 9) (.int q) = true := fun q hq => by rcases (show b = 0 ∨ b = 1 by omega) with h | h <;> rw [hq, h] <;> exact ⟨rfl, rfl⟩
    refine kput X hI hP hS (oS (j := 0) (by omega)) g_X6_89 (fun _ => rfl) rfl (fun _ => Nat.le_of_ble_eq_true rfl) (hzb _ rfl).1 (hzb _ rfl).2 dX6_forbidSkew_30 (fun H locs hP hS => ?_)
    refine lv_aload_n hx hb dX6_forbidSkew_33 rfl (lv_at hl 0 rfl) ?_
    refine kget X hP oX g_X6_12 rfl dX6_forbidSkew_34 ?_
    refine kcV X hP hS (c_X4_pairsInSkew l hI (j := 0) (k := k) (by omega) (by rw [gs_row (by omega), e0 (sB 0) (by unfold sB; omega) (by unfold sB; omega) (by unfold sB; omega)]; exact hk) hk4) (oS (j := 0) (by omega)) v_X6_92 ⟨Nat.le_of_ble_eq_true rfl, Nat.le_of_ble_eq_true rfl, rfl, rfl⟩ rfl rfl (Nat.le_of_ble_eq_true rfl) hl.1 ⟨Nat.zero_le _, Nat.zero_le _⟩ dX6_forbidSkew_37 (fun r_37 G_37 H locs hR hP hS => ?_)
    obtain ⟨rfl, hG_37⟩ := hR
    rw [hG_37] at hP
    clear hG_37
    exact hret _ _ _ _ _ _ (by rw [if_neg c_8]; exact ⟨_, h_22, rfl, rfl⟩) hP hS dX6_forbidSkew_40
  · skip
    refine lv_bipush (v := (-5)) hx hb dX6_forbidSkew_11 (by decide) ?_
    exact hret _ _ _ _ _ _ (by rw [if_pos c_8]; exact ⟨rfl, rfl⟩) hP hS dX6_forbidSkew_13

set_option maxHeartbeats 4000000 in
set_option maxRecDepth 100000 in
theorem c_X6_cell (l : Launch) {D : va_G} {τ : Nat → ClassId} {ad : Nat → Nat} (hI : kInj ad) {G : Nat → Nat → Int32} {n : Nat} {P : Nat → Nat} {x y : Int32} (hn : G (sB 0) 6 = nI n) (hn4 : n ≤ 40)  (hp : ∀ c, c < 12 → G (cB 0 c) 2 = nI (P c) ∧ 1 ≤ P c ∧ P c ≤ 10) : kM l yX6_cell cX6_cell 4 (some .int) { frames := 2, cells := 0, slots := 0, locals := 47 } D τ ad [.ref (ad 7), .int x, .int y] G (fun v G' => G' = G ∧ rdP 12 x (v = -1) (fun c => v = clC G n P c y)) := by
  refine kMet (own := RX6) (by decide) rfl (Nat.le_of_ble_eq_true rfl) ?_
  intro p9 e9 s9 m9 args9 below9 meth9 c9 Q9 X hx hb hP hS hret ls hl
  have hPs := hP
  have hl : lv_has ls 4 [(0, .ref (ad 7)), (1, .int x), (2, .int y)] := hl
  refine lv_iload_n hx hb dX6_cell_0 rfl (lv_at hl 1 rfl) ?_
  refine kcS X hP hS (c_X6_isCell l hI) v_X6_99 ⟨Nat.le_of_ble_eq_true rfl, Nat.le_of_ble_eq_true rfl, rfl, rfl⟩ rfl rfl (Nat.le_of_ble_eq_true rfl) hl.1 ⟨Nat.zero_le _, Nat.zero_le _⟩ dX6_cell_1 (fun r_1 G_1 H locs hR hP hS => ?_)
  obtain ⟨rfl, hG_1⟩ := hR
  rw [hG_1] at hP
  clear hG_1
  first
    | refine kif_ne (tgt := 9) hx hb dX6_cell_4 (by decide) (fun c_4 => ?_) (fun c_4 => ?_)
    | refine lv_if_ne (tgt := 9) hx hb dX6_cell_4 (by decide) (fun c_4 => ?_) (fun c_4 => ?_)
  · skip
    obtain ⟨c, hc, rfl⟩ := hsR_yes (n := 12) (by omega) c_4
    refine lv_aload_n hx hb dX6_cell_9 rfl (lv_at hl 0 rfl) ?_
    refine kget X hP oX g_X6_12 rfl dX6_cell_10 ?_
    refine kget X hP (oS (j := 0) (by omega)) g_X6_112 rfl dX6_cell_13 ?_
    refine lv_iload_n hx hb dX6_cell_16 rfl (lv_at hl 1 rfl) ?_
    refine kaald X hP (qC (j := 0) (by omega)) (by omega) rfl dX6_cell_17 ?_
    refine kast hx hb dX6_cell_18 rfl hl (by decide) (kp_3_3 rfl) (fun ls hl => ?_)
    refine lv_iload_n hx hb dX6_cell_19 rfl (lv_at hl 2 rfl) ?_
    by_cases q_0 : y = nI 0
    · skip
      subst q_0
      refine lv_tableIn (off := 36) (tgt := 56) hx hb dX6_cell_20 (by decide) (by decide) rfl (by decide) ?_
      refine lv_aload_n hx hb dX6_cell_56 rfl (lv_at hl 3 rfl) ?_
      refine kget X hP (oC (j := 0) (c := c) (by omega) hc) g_X6_175 rfl dX6_cell_57 ?_
      refine lv_iconst (v := nI 0) hx hb dX6_cell_60 (by decide) ?_
      refine kiald X hP (aV (j := 0) (c := c) (by omega) hc) (by omega) dX6_cell_61 ?_
      exact hret _ _ _ _ _ _ (⟨rfl, rdP_h hc (by omega) (by rw [clC, if_pos (rfl : nI 0 = nI 0)])⟩) hP hS dX6_cell_62
    by_cases q_1 : y = nI 1
    · skip
      subst q_1
      refine lv_tableIn (off := 43) (tgt := 63) hx hb dX6_cell_20 (by decide) (by decide) rfl (by decide) ?_
      refine lv_aload_n hx hb dX6_cell_63 rfl (lv_at hl 3 rfl) ?_
      refine kget X hP (oC (j := 0) (c := c) (by omega) hc) g_X6_176 rfl dX6_cell_64 ?_
      refine lv_iconst (v := nI 0) hx hb dX6_cell_67 (by decide) ?_
      refine kiald X hP (aM (j := 0) (c := c) (by omega) hc) (by omega) dX6_cell_68 ?_
      exact hret _ _ _ _ _ _ (⟨rfl, rdP_h hc (by omega) (by rw [clC, if_neg q_0, if_pos (rfl : nI 1 = nI 1)])⟩) hP hS dX6_cell_69
    by_cases q_2 : y = nI 2
    · skip
      subst q_2
      refine lv_tableIn (off := 50) (tgt := 70) hx hb dX6_cell_20 (by decide) (by decide) rfl (by decide) ?_
      refine lv_aload_n hx hb dX6_cell_70 rfl (lv_at hl 3 rfl) ?_
      refine kget X hP (oC (j := 0) (c := c) (by omega) hc) g_X6_179 (congrArg (fun z => some (Value.int z)) (hp c hc).1) dX6_cell_71 ?_
      exact hret _ _ _ _ _ _ (⟨rfl, rdP_h hc (by omega) (by rw [clC, if_neg q_0, if_neg q_1, if_pos (rfl : nI 2 = nI 2)])⟩) hP hS dX6_cell_74
    by_cases q_3 : y = nI 3
    · skip
      subst q_3
      refine lv_tableIn (off := 55) (tgt := 75) hx hb dX6_cell_20 (by decide) (by decide) rfl (by decide) ?_
      refine lv_aload_n hx hb dX6_cell_75 rfl (lv_at hl 0 rfl) ?_
      refine kget X hP oX g_X6_12 rfl dX6_cell_76 ?_
      refine lv_aload_n hx hb dX6_cell_79 rfl (lv_at hl 3 rfl) ?_
      refine lv_iconst (v := nI 0) hx hb dX6_cell_80 (by decide) ?_
      refine kcV X hP hS (c_X4_seersOf l hI (j := 0) (n := n) (c := c) (P := P c) (q := nI 0) (by omega) hn hn4 hc (hp c hc).1 (hp c hc).2.2) (oS (j := 0) (by omega)) v_X6_182 ⟨Nat.le_of_ble_eq_true rfl, Nat.le_of_ble_eq_true rfl, rfl, rfl⟩ rfl rfl (Nat.le_of_ble_eq_true rfl) hl.1 ⟨Nat.zero_le _, Nat.zero_le _⟩ dX6_cell_81 (fun r_81 G_81 H locs hR hP hS => ?_)
      obtain ⟨rfl, hG_81⟩ := hR
      rw [hG_81] at hP
      clear hG_81
      exact hret _ _ _ _ _ _ (⟨rfl, rdP_h hc (by omega) (by rw [clC, if_neg q_0, if_neg q_1, if_neg q_2, if_pos (rfl : nI 3 = nI 3)])⟩) hP hS dX6_cell_84
    by_cases q_4 : y = nI 4
    · skip
      subst q_4
      refine lv_tableIn (off := 65) (tgt := 85) hx hb dX6_cell_20 (by decide) (by decide) rfl (by decide) ?_
      refine lv_aload_n hx hb dX6_cell_85 rfl (lv_at hl 0 rfl) ?_
      refine kget X hP oX g_X6_12 rfl dX6_cell_86 ?_
      refine lv_iload_n hx hb dX6_cell_89 rfl (lv_at hl 1 rfl) ?_
      refine kcV X hP hS (c_X4_writersOf l hI (j := 0) (n := n) (c := c) (by omega) hn hn4) (oS (j := 0) (by omega)) v_X6_186 ⟨Nat.le_of_ble_eq_true rfl, Nat.le_of_ble_eq_true rfl, rfl, rfl⟩ rfl rfl (Nat.le_of_ble_eq_true rfl) hl.1 ⟨Nat.zero_le _, Nat.zero_le _⟩ dX6_cell_90 (fun r_90 G_90 H locs hR hP hS => ?_)
      obtain ⟨rfl, hG_90⟩ := hR
      rw [hG_90] at hP
      clear hG_90
      exact hret _ _ _ _ _ _ (⟨rfl, rdP_h hc (by omega) (by rw [clC, if_neg q_0, if_neg q_1, if_neg q_2, if_neg q_3, if_pos (rfl : nI 4 = nI 4)])⟩) hP hS dX6_cell_93
    refine lv_tableOut (tgt := 94) hx hb dX6_cell_20 (tb_out 4 (by decide) (fun i hi => by
        rcases (show i = 0 ∨ i = 1 ∨ i = 2 ∨ i = 3 ∨ i = 4 by omega) with rfl | rfl | rfl | rfl | rfl <;> assumption)) (by decide) ?_
    refine lv_bipush (v := (-2)) hx hb dX6_cell_94 (by decide) ?_
    exact hret _ _ _ _ _ _ (⟨rfl, rdP_h hc (by omega) (by rw [clC, if_neg q_0, if_neg q_1, if_neg q_2, if_neg q_3, if_neg q_4])⟩) hP hS dX6_cell_96
  · skip
    have hmc := hsR_no (n := 12) (by omega) c_4
    refine lv_iconst (v := (-1)) hx hb dX6_cell_7 (by decide) ?_
    exact hret _ _ _ _ _ _ (⟨rfl, rdP_m hmc rfl⟩) hP hS dX6_cell_8

set_option maxHeartbeats 4000000 in
set_option maxRecDepth 100000 in
theorem c_X6_count (l : Launch) {D : va_G} {τ : Nat → ClassId} {ad : Nat → Nat} (hI : kInj ad) {G : Nat → Nat → Int32} {n k : Nat} {P : Nat → Nat} {y : Int32} (hn : G (sB 0) 6 = nI n) (hn4 : n ≤ 40) (hk : G (sB 0) 7 = nI k) (hk4 : k ≤ 40)  (hp : ∀ c, c < 12 → G (cB 0 c) 2 = nI (P c) ∧ 1 ≤ P c ∧ P c ≤ 10) : kM l yX6_count cX6_count 2 (some .int) { frames := 2, cells := 0, slots := 0, locals := 42 } D τ ad [.ref (ad 7), .int y] G (fun v G' => G' = G ∧ v = ctC G n k P y) := by
  refine kMet (own := RX6) (by decide) rfl (Nat.le_of_ble_eq_true rfl) ?_
  intro p9 e9 s9 m9 args9 below9 meth9 c9 Q9 X hx hb hP hS hret ls hl
  have hPs := hP
  have hl : lv_has ls 2 [(0, .ref (ad 7)), (1, .int y)] := hl
  refine lv_iload_n hx hb dX6_count_0 rfl (lv_at hl 1 rfl) ?_
  by_cases q_0 : y = nI 0
  · skip
    subst q_0
    refine lv_tableIn (off := 83) (tgt := 84) hx hb dX6_count_1 (by decide) (by decide) rfl (by decide) ?_
    refine lv_aload_n hx hb dX6_count_84 rfl (lv_at hl 0 rfl) ?_
    refine kget X hP oX g_X6_12 rfl dX6_count_85 ?_
    refine kget X hP (oS (j := 0) (by omega)) g_X6_144 rfl dX6_count_88 ?_
    exact hret _ _ _ _ _ _ (⟨rfl, by rw [ctC, if_pos (rfl : nI 0 = nI 0)]⟩) hP hS dX6_count_91
  by_cases q_1 : y = nI 1
  · skip
    subst q_1
    refine lv_tableIn (off := 91) (tgt := 92) hx hb dX6_count_1 (by decide) (by decide) rfl (by decide) ?_
    refine lv_aload_n hx hb dX6_count_92 rfl (lv_at hl 0 rfl) ?_
    refine kget X hP oX g_X6_12 rfl dX6_count_93 ?_
    refine kget X hP (oS (j := 0) (by omega)) g_X6_207 rfl dX6_count_96 ?_
    exact hret _ _ _ _ _ _ (⟨rfl, by rw [ctC, if_neg q_0, if_pos (rfl : nI 1 = nI 1)]⟩) hP hS dX6_count_99
  by_cases q_2 : y = nI 2
  · skip
    subst q_2
    refine lv_tableIn (off := 99) (tgt := 100) hx hb dX6_count_1 (by decide) (by decide) rfl (by decide) ?_
    refine lv_aload_n hx hb dX6_count_100 rfl (lv_at hl 0 rfl) ?_
    refine kget X hP oX g_X6_12 rfl dX6_count_101 ?_
    refine kget X hP (oS (j := 0) (by omega)) g_X6_36 rfl dX6_count_104 ?_
    exact hret _ _ _ _ _ _ (⟨rfl, by rw [ctC, if_neg q_0, if_neg q_1, if_pos (rfl : nI 2 = nI 2)]⟩) hP hS dX6_count_107
  by_cases q_3 : y = nI 3
  · skip
    subst q_3
    refine lv_tableIn (off := 107) (tgt := 108) hx hb dX6_count_1 (by decide) (by decide) rfl (by decide) ?_
    refine lv_aload_n hx hb dX6_count_108 rfl (lv_at hl 0 rfl) ?_
    refine kget X hP oX g_X6_12 rfl dX6_count_109 ?_
    refine lv_iconst (v := nI 0) hx hb dX6_count_112 (by decide) ?_
    refine kcV X hP hS (c_X4_readersIn l hI (j := 0) (by omega) hn hn4) (oS (j := 0) (by omega)) v_X6_40 ⟨Nat.le_of_ble_eq_true rfl, Nat.le_of_ble_eq_true rfl, rfl, rfl⟩ rfl rfl (Nat.le_of_ble_eq_true rfl) hl.1 ⟨Nat.zero_le _, Nat.zero_le _⟩ dX6_count_113 (fun r_113 G_113 H locs hR hP hS => ?_)
    obtain ⟨rfl, hG_113⟩ := hR
    rw [hG_113] at hP
    clear hG_113
    exact hret _ _ _ _ _ _ (⟨rfl, by rw [ctC, if_neg q_0, if_neg q_1, if_neg q_2, if_pos (rfl : nI 3 = nI 3)]⟩) hP hS dX6_count_116
  by_cases q_4 : y = nI 4
  · skip
    subst q_4
    refine lv_tableIn (off := 116) (tgt := 117) hx hb dX6_count_1 (by decide) (by decide) rfl (by decide) ?_
    refine lv_aload_n hx hb dX6_count_117 rfl (lv_at hl 0 rfl) ?_
    refine kget X hP oX g_X6_12 rfl dX6_count_118 ?_
    refine lv_iconst (v := nI 1) hx hb dX6_count_121 (by decide) ?_
    refine kcV X hP hS (c_X4_readersIn l hI (j := 0) (by omega) hn hn4) (oS (j := 0) (by omega)) v_X6_40 ⟨Nat.le_of_ble_eq_true rfl, Nat.le_of_ble_eq_true rfl, rfl, rfl⟩ rfl rfl (Nat.le_of_ble_eq_true rfl) hl.1 ⟨Nat.zero_le _, Nat.zero_le _⟩ dX6_count_122 (fun r_122 G_122 H locs hR hP hS => ?_)
    obtain ⟨rfl, hG_122⟩ := hR
    rw [hG_122] at hP
    clear hG_122
    exact hret _ _ _ _ _ _ (⟨rfl, by rw [ctC, if_neg q_0, if_neg q_1, if_neg q_2, if_neg q_3, if_pos (rfl : nI 4 = nI 4)]⟩) hP hS dX6_count_125
  by_cases q_5 : y = nI 5
  · skip
    subst q_5
    refine lv_tableIn (off := 125) (tgt := 126) hx hb dX6_count_1 (by decide) (by decide) rfl (by decide) ?_
    refine lv_aload_n hx hb dX6_count_126 rfl (lv_at hl 0 rfl) ?_
    refine kget X hP oX g_X6_12 rfl dX6_count_127 ?_
    refine lv_iconst (v := nI 2) hx hb dX6_count_130 (by decide) ?_
    refine kcV X hP hS (c_X4_readersIn l hI (j := 0) (by omega) hn hn4) (oS (j := 0) (by omega)) v_X6_40 ⟨Nat.le_of_ble_eq_true rfl, Nat.le_of_ble_eq_true rfl, rfl, rfl⟩ rfl rfl (Nat.le_of_ble_eq_true rfl) hl.1 ⟨Nat.zero_le _, Nat.zero_le _⟩ dX6_count_131 (fun r_131 G_131 H locs hR hP hS => ?_)
    obtain ⟨rfl, hG_131⟩ := hR
    rw [hG_131] at hP
    clear hG_131
    exact hret _ _ _ _ _ _ (⟨rfl, by rw [ctC, if_neg q_0, if_neg q_1, if_neg q_2, if_neg q_3, if_neg q_4, if_pos (rfl : nI 5 = nI 5)]⟩) hP hS dX6_count_134
  by_cases q_6 : y = nI 6
  · skip
    subst q_6
    refine lv_tableIn (off := 134) (tgt := 135) hx hb dX6_count_1 (by decide) (by decide) rfl (by decide) ?_
    refine lv_aload_n hx hb dX6_count_135 rfl (lv_at hl 0 rfl) ?_
    refine kget X hP oX g_X6_12 rfl dX6_count_136 ?_
    refine lv_iconst (v := nI 3) hx hb dX6_count_139 (by decide) ?_
    refine kcV X hP hS (c_X4_readersIn l hI (j := 0) (by omega) hn hn4) (oS (j := 0) (by omega)) v_X6_40 ⟨Nat.le_of_ble_eq_true rfl, Nat.le_of_ble_eq_true rfl, rfl, rfl⟩ rfl rfl (Nat.le_of_ble_eq_true rfl) hl.1 ⟨Nat.zero_le _, Nat.zero_le _⟩ dX6_count_140 (fun r_140 G_140 H locs hR hP hS => ?_)
    obtain ⟨rfl, hG_140⟩ := hR
    rw [hG_140] at hP
    clear hG_140
    exact hret _ _ _ _ _ _ (⟨rfl, by rw [ctC, if_neg q_0, if_neg q_1, if_neg q_2, if_neg q_3, if_neg q_4, if_neg q_5, if_pos (rfl : nI 6 = nI 6)]⟩) hP hS dX6_count_143
  by_cases q_7 : y = nI 7
  · skip
    subst q_7
    refine lv_tableIn (off := 143) (tgt := 144) hx hb dX6_count_1 (by decide) (by decide) rfl (by decide) ?_
    refine lv_aload_n hx hb dX6_count_144 rfl (lv_at hl 0 rfl) ?_
    refine kget X hP oX g_X6_12 rfl dX6_count_145 ?_
    refine kcV X hP hS (c_X4_oldVersions l hI (j := 0) (P := P) (by omega) (fun c hc => ⟨(hp c hc).1, (hp c hc).2.1⟩)) (oS (j := 0) (by omega)) v_X6_233 ⟨Nat.le_of_ble_eq_true rfl, Nat.le_of_ble_eq_true rfl, rfl, rfl⟩ rfl rfl (Nat.le_of_ble_eq_true rfl) hl.1 ⟨Nat.zero_le _, Nat.zero_le _⟩ dX6_count_148 (fun r_148 G_148 H locs hR hP hS => ?_)
    obtain ⟨rfl, hG_148⟩ := hR
    rw [hG_148] at hP
    clear hG_148
    exact hret _ _ _ _ _ _ (⟨rfl, by rw [ctC, if_neg q_0, if_neg q_1, if_neg q_2, if_neg q_3, if_neg q_4, if_neg q_5, if_neg q_6, if_pos (rfl : nI 7 = nI 7)]⟩) hP hS dX6_count_151
  by_cases q_8 : y = nI 8
  · skip
    subst q_8
    refine lv_tableIn (off := 151) (tgt := 152) hx hb dX6_count_1 (by decide) (by decide) rfl (by decide) ?_
    refine lv_aload_n hx hb dX6_count_152 rfl (lv_at hl 0 rfl) ?_
    refine kget X hP oX g_X6_12 rfl dX6_count_153 ?_
    refine kget X hP (oS (j := 0) (by omega)) g_X6_236 rfl dX6_count_156 ?_
    exact hret _ _ _ _ _ _ (⟨rfl, by rw [ctC, if_neg q_0, if_neg q_1, if_neg q_2, if_neg q_3, if_neg q_4, if_neg q_5, if_neg q_6, if_neg q_7, if_pos (rfl : nI 8 = nI 8)]⟩) hP hS dX6_count_159
  by_cases q_9 : y = nI 9
  · skip
    subst q_9
    refine lv_tableIn (off := 159) (tgt := 160) hx hb dX6_count_1 (by decide) (by decide) rfl (by decide) ?_
    refine lv_aload_n hx hb dX6_count_160 rfl (lv_at hl 0 rfl) ?_
    refine kget X hP oX g_X6_12 rfl dX6_count_161 ?_
    refine kget X hP (oS (j := 0) (by omega)) g_X6_86 rfl dX6_count_164 ?_
    exact hret _ _ _ _ _ _ (⟨rfl, by rw [ctC, if_neg q_0, if_neg q_1, if_neg q_2, if_neg q_3, if_neg q_4, if_neg q_5, if_neg q_6, if_neg q_7, if_neg q_8, if_pos (rfl : nI 9 = nI 9)]⟩) hP hS dX6_count_167
  by_cases q_10 : y = nI 10
  · skip
    subst q_10
    refine lv_tableIn (off := 167) (tgt := 168) hx hb dX6_count_1 (by decide) (by decide) rfl (by decide) ?_
    refine lv_aload_n hx hb dX6_count_168 rfl (lv_at hl 0 rfl) ?_
    refine kget X hP oX g_X6_12 rfl dX6_count_169 ?_
    refine kcV X hP hS (c_X4_coinsPaid l hI (j := 0) (by omega) hn hn4) (oS (j := 0) (by omega)) v_X6_239 ⟨Nat.le_of_ble_eq_true rfl, Nat.le_of_ble_eq_true rfl, rfl, rfl⟩ rfl rfl (Nat.le_of_ble_eq_true rfl) hl.1 ⟨Nat.zero_le _, Nat.zero_le _⟩ dX6_count_172 (fun r_172 G_172 H locs hR hP hS => ?_)
    obtain ⟨rfl, hG_172⟩ := hR
    rw [hG_172] at hP
    clear hG_172
    exact hret _ _ _ _ _ _ (⟨rfl, by rw [ctC, if_neg q_0, if_neg q_1, if_neg q_2, if_neg q_3, if_neg q_4, if_neg q_5, if_neg q_6, if_neg q_7, if_neg q_8, if_neg q_9, if_pos (rfl : nI 10 = nI 10)]⟩) hP hS dX6_count_175
  by_cases q_11 : y = nI 11
  · skip
    subst q_11
    refine lv_tableIn (off := 175) (tgt := 176) hx hb dX6_count_1 (by decide) (by decide) rfl (by decide) ?_
    refine lv_aload_n hx hb dX6_count_176 rfl (lv_at hl 0 rfl) ?_
    refine kget X hP oX g_X6_12 rfl dX6_count_177 ?_
    refine kget X hP (oS (j := 0) (by omega)) g_X6_210 rfl dX6_count_180 ?_
    exact hret _ _ _ _ _ _ (⟨rfl, by rw [ctC, if_neg q_0, if_neg q_1, if_neg q_2, if_neg q_3, if_neg q_4, if_neg q_5, if_neg q_6, if_neg q_7, if_neg q_8, if_neg q_9, if_neg q_10, if_pos (rfl : nI 11 = nI 11)]⟩) hP hS dX6_count_183
  by_cases q_12 : y = nI 12
  · skip
    subst q_12
    refine lv_tableIn (off := 183) (tgt := 184) hx hb dX6_count_1 (by decide) (by decide) rfl (by decide) ?_
    refine lv_aload_n hx hb dX6_count_184 rfl (lv_at hl 0 rfl) ?_
    refine kget X hP oX g_X6_12 rfl dX6_count_185 ?_
    refine kcV X hP hS (c_X4_pairsInSkew l hI (j := 0) (by omega) hk hk4) (oS (j := 0) (by omega)) v_X6_92 ⟨Nat.le_of_ble_eq_true rfl, Nat.le_of_ble_eq_true rfl, rfl, rfl⟩ rfl rfl (Nat.le_of_ble_eq_true rfl) hl.1 ⟨Nat.zero_le _, Nat.zero_le _⟩ dX6_count_188 (fun r_188 G_188 H locs hR hP hS => ?_)
    obtain ⟨rfl, hG_188⟩ := hR
    rw [hG_188] at hP
    clear hG_188
    exact hret _ _ _ _ _ _ (⟨rfl, by rw [ctC, if_neg q_0, if_neg q_1, if_neg q_2, if_neg q_3, if_neg q_4, if_neg q_5, if_neg q_6, if_neg q_7, if_neg q_8, if_neg q_9, if_neg q_10, if_neg q_11, if_pos (rfl : nI 12 = nI 12)]⟩) hP hS dX6_count_191
  by_cases q_13 : y = nI 13
  · skip
    subst q_13
    refine lv_tableIn (off := 191) (tgt := 192) hx hb dX6_count_1 (by decide) (by decide) rfl (by decide) ?_
    refine lv_aload_n hx hb dX6_count_192 rfl (lv_at hl 0 rfl) ?_
    refine kget X hP oX g_X6_12 rfl dX6_count_193 ?_
    refine kget X hP (oS (j := 0) (by omega)) g_X6_89 rfl dX6_count_196 ?_
    first
      | refine kif_eq (tgt := 206) hx hb dX6_count_199 (by decide) (fun c_199 => ?_) (fun c_199 => ?_)
      | refine lv_if_eq (tgt := 206) hx hb dX6_count_199 (by decide) (fun c_199 => ?_) (fun c_199 => ?_)
    · skip
      refine lv_iconst (v := nI 0) hx hb dX6_count_206 (by decide) ?_
      exact hret _ _ _ _ _ _ (⟨rfl, by rw [ctC, if_neg q_0, if_neg q_1, if_neg q_2, if_neg q_3, if_neg q_4, if_neg q_5, if_neg q_6, if_neg q_7, if_neg q_8, if_neg q_9, if_neg q_10, if_neg q_11, if_neg q_12, if_pos (rfl : nI 13 = nI 13), if_pos c_199]⟩) hP hS dX6_count_207
    · skip
      refine lv_iconst (v := nI 1) hx hb dX6_count_202 (by decide) ?_
      refine lv_goto (tgt := 207) hx hb dX6_count_203 (by decide) ?_
      exact hret _ _ _ _ _ _ (⟨rfl, by rw [ctC, if_neg q_0, if_neg q_1, if_neg q_2, if_neg q_3, if_neg q_4, if_neg q_5, if_neg q_6, if_neg q_7, if_neg q_8, if_neg q_9, if_neg q_10, if_neg q_11, if_neg q_12, if_pos (rfl : nI 13 = nI 13), if_neg c_199]⟩) hP hS dX6_count_207
  by_cases q_14 : y = nI 14
  · skip
    subst q_14
    refine lv_tableIn (off := 207) (tgt := 208) hx hb dX6_count_1 (by decide) (by decide) rfl (by decide) ?_
    refine lv_aload_n hx hb dX6_count_208 rfl (lv_at hl 0 rfl) ?_
    refine kget X hP oX g_X6_12 rfl dX6_count_209 ?_
    refine kcV X hP hS (c_X4_openWidows l hI (j := 0) (by omega) hn hn4) (oS (j := 0) (by omega)) v_X6_242 ⟨Nat.le_of_ble_eq_true rfl, Nat.le_of_ble_eq_true rfl, rfl, rfl⟩ rfl rfl (Nat.le_of_ble_eq_true rfl) hl.1 ⟨Nat.zero_le _, Nat.zero_le _⟩ dX6_count_212 (fun r_212 G_212 H locs hR hP hS => ?_)
    obtain ⟨rfl, hG_212⟩ := hR
    rw [hG_212] at hP
    clear hG_212
    exact hret _ _ _ _ _ _ (⟨rfl, by rw [ctC, if_neg q_0, if_neg q_1, if_neg q_2, if_neg q_3, if_neg q_4, if_neg q_5, if_neg q_6, if_neg q_7, if_neg q_8, if_neg q_9, if_neg q_10, if_neg q_11, if_neg q_12, if_neg q_13, if_pos (rfl : nI 14 = nI 14)]⟩) hP hS dX6_count_215
  by_cases q_15 : y = nI 15
  · skip
    subst q_15
    refine lv_tableIn (off := 215) (tgt := 216) hx hb dX6_count_1 (by decide) (by decide) rfl (by decide) ?_
    refine lv_aload_n hx hb dX6_count_216 rfl (lv_at hl 0 rfl) ?_
    refine kget X hP oX g_X6_25 rfl dX6_count_217 ?_
    refine kget X hP oH g_X6_165 rfl dX6_count_220 ?_
    exact hret _ _ _ _ _ _ (⟨rfl, by rw [ctC, if_neg q_0, if_neg q_1, if_neg q_2, if_neg q_3, if_neg q_4, if_neg q_5, if_neg q_6, if_neg q_7, if_neg q_8, if_neg q_9, if_neg q_10, if_neg q_11, if_neg q_12, if_neg q_13, if_neg q_14, if_pos (rfl : nI 15 = nI 15)]⟩) hP hS dX6_count_223
  by_cases q_16 : y = nI 16
  · skip
    subst q_16
    refine lv_tableIn (off := 223) (tgt := 224) hx hb dX6_count_1 (by decide) (by decide) rfl (by decide) ?_
    refine lv_aload_n hx hb dX6_count_224 rfl (lv_at hl 0 rfl) ?_
    refine kget X hP oX g_X6_32 rfl dX6_count_225 ?_
    refine kget X hP oT g_X6_145 rfl dX6_count_228 ?_
    exact hret _ _ _ _ _ _ (⟨rfl, by rw [ctC, if_neg q_0, if_neg q_1, if_neg q_2, if_neg q_3, if_neg q_4, if_neg q_5, if_neg q_6, if_neg q_7, if_neg q_8, if_neg q_9, if_neg q_10, if_neg q_11, if_neg q_12, if_neg q_13, if_neg q_14, if_neg q_15, if_pos (rfl : nI 16 = nI 16)]⟩) hP hS dX6_count_231
  refine lv_tableOut (tgt := 232) hx hb dX6_count_1 (tb_out 16 (by decide) (fun i hi => by
      rcases (show i = 0 ∨ i = 1 ∨ i = 2 ∨ i = 3 ∨ i = 4 ∨ i = 5 ∨ i = 6 ∨ i = 7 ∨ i = 8 ∨ i = 9 ∨ i = 10 ∨ i = 11 ∨ i = 12 ∨ i = 13 ∨ i = 14 ∨ i = 15 ∨ i = 16 by omega) with rfl | rfl | rfl | rfl | rfl | rfl | rfl | rfl | rfl | rfl | rfl | rfl | rfl | rfl | rfl | rfl | rfl <;> assumption)) (by decide) ?_
  refine lv_bipush (v := (-2)) hx hb dX6_count_232 (by decide) ?_
  exact hret _ _ _ _ _ _ (⟨rfl, by rw [ctC, if_neg q_0, if_neg q_1, if_neg q_2, if_neg q_3, if_neg q_4, if_neg q_5, if_neg q_6, if_neg q_7, if_neg q_8, if_neg q_9, if_neg q_10, if_neg q_11, if_neg q_12, if_neg q_13, if_neg q_14, if_neg q_15, if_neg q_16]⟩) hP hS dX6_count_234

set_option maxHeartbeats 4000000 in
set_option maxRecDepth 100000 in
theorem c_X6_reader (l : Launch) {D : va_G} {τ : Nat → ClassId} {ad : Nat → Nat} (hI : kInj ad) {G : Nat → Nat → Int32} {n k : Nat} {P : Nat → Nat} {x y : Int32} (hn : G (sB 0) 6 = nI n) (hn4 : n ≤ 40) (hk : G (sB 0) 7 = nI k) (hk4 : k ≤ 40)  (hp : ∀ c, c < 12 → G (cB 0 c) 2 = nI (P c) ∧ 1 ≤ P c ∧ P c ≤ 10) : kM l yX6_reader cX6_reader 4 (some .int) { frames := 4, cells := 0, slots := 0, locals := 93 } D τ ad [.ref (ad 7), .int x, .int y] G (fun v G' => G' = G ∧ rdP n x (v = -1) (fun r => v = rdC G n k P r y)) := by
  refine kMet (own := RX6) (by decide) rfl (Nat.le_of_ble_eq_true rfl) ?_
  intro p9 e9 s9 m9 args9 below9 meth9 c9 Q9 X hx hb hP hS hret ls hl
  have hPs := hP
  have hl : lv_has ls 4 [(0, .ref (ad 7)), (1, .int x), (2, .int y)] := hl
  refine lv_aload_n hx hb dX6_reader_0 rfl (lv_at hl 0 rfl) ?_
  refine kget X hP oX g_X6_12 rfl dX6_reader_1 ?_
  refine lv_iload_n hx hb dX6_reader_4 rfl (lv_at hl 1 rfl) ?_
  refine kcV X hP hS (c_X4_hasReader l hI (j := 0) (by omega)) (oS (j := 0) (by omega)) v_X6_51 ⟨Nat.le_of_ble_eq_true rfl, Nat.le_of_ble_eq_true rfl, rfl, rfl⟩ rfl rfl (Nat.le_of_ble_eq_true rfl) hl.1 ⟨Nat.zero_le _, Nat.zero_le _⟩ dX6_reader_5 (fun r_5 G_5 H locs hR hP hS => ?_)
  obtain ⟨rfl, hG_5⟩ := hR
  rw [hG_5] at hP
  clear hG_5
  first
    | refine kif_ne (tgt := 13) hx hb dX6_reader_8 (by decide) (fun c_8 => ?_) (fun c_8 => ?_)
    | refine lv_if_ne (tgt := 13) hx hb dX6_reader_8 (by decide) (fun c_8 => ?_) (fun c_8 => ?_)
  · skip
    obtain ⟨r, hr, rfl⟩ := hsR_yes hn4 (by rw [hn] at c_8; exact c_8)
    refine lv_aload_n hx hb dX6_reader_13 rfl (lv_at hl 0 rfl) ?_
    refine kget X hP oX g_X6_12 rfl dX6_reader_14 ?_
    refine kget X hP (oS (j := 0) (by omega)) g_X6_55 rfl dX6_reader_17 ?_
    refine lv_iload_n hx hb dX6_reader_20 rfl (lv_at hl 1 rfl) ?_
    refine kaald X hP (qR (j := 0) (by omega)) (by omega) rfl dX6_reader_21 ?_
    refine kast hx hb dX6_reader_22 rfl hl (by decide) (kp_3_3 rfl) (fun ls hl => ?_)
    refine lv_iload_n hx hb dX6_reader_23 rfl (lv_at hl 2 rfl) ?_
    by_cases q_0 : y = nI 0
    · skip
      subst q_0
      refine lv_tableIn (off := 64) (tgt := 88) hx hb dX6_reader_24 (by decide) (by decide) rfl (by decide) ?_
      refine lv_aload_n hx hb dX6_reader_88 rfl (lv_at hl 3 rfl) ?_
      refine kget X hP (oR (j := 0) (r := r) (by omega) (by omega)) g_X6_79 rfl dX6_reader_89 ?_
      exact hret _ _ _ _ _ _ (⟨rfl, rdP_h hr hn4 (by rw [rdC, if_pos (rfl : nI 0 = nI 0)])⟩) hP hS dX6_reader_92
    by_cases q_1 : y = nI 1
    · skip
      subst q_1
      refine lv_tableIn (off := 69) (tgt := 93) hx hb dX6_reader_24 (by decide) (by decide) rfl (by decide) ?_
      refine lv_aload_n hx hb dX6_reader_93 rfl (lv_at hl 3 rfl) ?_
      refine kget X hP (oR (j := 0) (r := r) (by omega) (by omega)) g_X6_116 rfl dX6_reader_94 ?_
      exact hret _ _ _ _ _ _ (⟨rfl, rdP_h hr hn4 (by rw [rdC, if_neg q_0, if_pos (rfl : nI 1 = nI 1)])⟩) hP hS dX6_reader_97
    by_cases q_2 : y = nI 2
    · skip
      subst q_2
      refine lv_tableIn (off := 74) (tgt := 98) hx hb dX6_reader_24 (by decide) (by decide) rfl (by decide) ?_
      refine lv_aload_n hx hb dX6_reader_98 rfl (lv_at hl 3 rfl) ?_
      refine kget X hP (oR (j := 0) (r := r) (by omega) (by omega)) g_X6_65 rfl dX6_reader_99 ?_
      exact hret _ _ _ _ _ _ (⟨rfl, rdP_h hr hn4 (by rw [rdC, if_neg q_0, if_neg q_1, if_pos (rfl : nI 2 = nI 2)])⟩) hP hS dX6_reader_102
    by_cases q_3 : y = nI 3
    · skip
      subst q_3
      refine lv_tableIn (off := 79) (tgt := 103) hx hb dX6_reader_24 (by decide) (by decide) rfl (by decide) ?_
      refine lv_aload_n hx hb dX6_reader_103 rfl (lv_at hl 0 rfl) ?_
      refine kget X hP oX g_X6_12 rfl dX6_reader_104 ?_
      refine lv_aload_n hx hb dX6_reader_107 rfl (lv_at hl 3 rfl) ?_
      refine kcV X hP hS (c_X4_dueOf l hI (j := 0) (n := n) (r := r) (P := P) (by omega) hn hn4 (by omega) (fun c hc => ⟨(hp c hc).1, (hp c hc).2.2⟩)) (oS (j := 0) (by omega)) v_X6_72 ⟨Nat.le_of_ble_eq_true rfl, Nat.le_of_ble_eq_true rfl, rfl, rfl⟩ rfl rfl (Nat.le_of_ble_eq_true rfl) hl.1 ⟨Nat.zero_le _, Nat.zero_le _⟩ dX6_reader_108 (fun r_108 G_108 H locs hR hP hS => ?_)
      obtain ⟨rfl, hG_108⟩ := hR
      rw [hG_108] at hP
      clear hG_108
      exact hret _ _ _ _ _ _ (⟨rfl, rdP_h hr hn4 (by rw [rdC, if_neg q_0, if_neg q_1, if_neg q_2, if_pos (rfl : nI 3 = nI 3)])⟩) hP hS dX6_reader_111
    by_cases q_4 : y = nI 4
    · skip
      subst q_4
      refine lv_tableIn (off := 88) (tgt := 112) hx hb dX6_reader_24 (by decide) (by decide) rfl (by decide) ?_
      refine lv_aload_n hx hb dX6_reader_112 rfl (lv_at hl 3 rfl) ?_
      refine kget X hP (oR (j := 0) (r := r) (by omega) (by omega)) g_X6_109 rfl dX6_reader_113 ?_
      exact hret _ _ _ _ _ _ (⟨rfl, rdP_h hr hn4 (by rw [rdC, if_neg q_0, if_neg q_1, if_neg q_2, if_neg q_3, if_pos (rfl : nI 4 = nI 4)])⟩) hP hS dX6_reader_116
    by_cases q_5 : y = nI 5
    · skip
      subst q_5
      refine lv_tableIn (off := 93) (tgt := 117) hx hb dX6_reader_24 (by decide) (by decide) rfl (by decide) ?_
      refine lv_aload_n hx hb dX6_reader_117 rfl (lv_at hl 3 rfl) ?_
      refine kget X hP (oR (j := 0) (r := r) (by omega) (by omega)) g_X6_195 rfl dX6_reader_118 ?_
      exact hret _ _ _ _ _ _ (⟨rfl, rdP_h hr hn4 (by rw [rdC, if_neg q_0, if_neg q_1, if_neg q_2, if_neg q_3, if_neg q_4, if_pos (rfl : nI 5 = nI 5)])⟩) hP hS dX6_reader_121
    by_cases q_6 : y = nI 6
    · skip
      subst q_6
      refine lv_tableIn (off := 98) (tgt := 122) hx hb dX6_reader_24 (by decide) (by decide) rfl (by decide) ?_
      refine lv_aload_n hx hb dX6_reader_122 rfl (lv_at hl 3 rfl) ?_
      refine kget X hP (oR (j := 0) (r := r) (by omega) (by omega)) g_X6_76 rfl dX6_reader_123 ?_
      exact hret _ _ _ _ _ _ (⟨rfl, rdP_h hr hn4 (by rw [rdC, if_neg q_0, if_neg q_1, if_neg q_2, if_neg q_3, if_neg q_4, if_neg q_5, if_pos (rfl : nI 6 = nI 6)])⟩) hP hS dX6_reader_126
    by_cases q_7 : y = nI 7
    · skip
      subst q_7
      refine lv_tableIn (off := 103) (tgt := 127) hx hb dX6_reader_24 (by decide) (by decide) rfl (by decide) ?_
      refine lv_aload_n hx hb dX6_reader_127 rfl (lv_at hl 3 rfl) ?_
      refine kget X hP (oR (j := 0) (r := r) (by omega) (by omega)) g_X6_198 rfl dX6_reader_128 ?_
      exact hret _ _ _ _ _ _ (⟨rfl, rdP_h hr hn4 (by rw [rdC, if_neg q_0, if_neg q_1, if_neg q_2, if_neg q_3, if_neg q_4, if_neg q_5, if_neg q_6, if_pos (rfl : nI 7 = nI 7)])⟩) hP hS dX6_reader_131
    by_cases q_8 : y = nI 8
    · skip
      subst q_8
      refine lv_tableIn (off := 108) (tgt := 132) hx hb dX6_reader_24 (by decide) (by decide) rfl (by decide) ?_
      refine lv_aload_n hx hb dX6_reader_132 rfl (lv_at hl 3 rfl) ?_
      refine kcV X hP hS (c_X3_isOpen l hI (j := 0) (by omega) (by omega)) (oR (j := 0) (r := r) (by omega) (by omega)) v_X6_59 ⟨Nat.le_of_ble_eq_true rfl, Nat.le_of_ble_eq_true rfl, rfl, rfl⟩ rfl rfl (Nat.le_of_ble_eq_true rfl) hl.1 ⟨Nat.zero_le _, Nat.zero_le _⟩ dX6_reader_133 (fun r_133 G_133 H locs hR hP hS => ?_)
      obtain ⟨rfl, hG_133⟩ := hR
      rw [hG_133] at hP
      clear hG_133
      first
        | refine kif_eq (tgt := 150) hx hb dX6_reader_136 (by decide) (fun c_136 => ?_) (fun c_136 => ?_)
        | refine lv_if_eq (tgt := 150) hx hb dX6_reader_136 (by decide) (fun c_136 => ?_) (fun c_136 => ?_)
      · skip
        refine lv_iconst (v := nI 0) hx hb dX6_reader_150 (by decide) ?_
        exact hret _ _ _ _ _ _ (⟨rfl, rdP_h hr hn4 (by rw [rdC, if_neg q_0, if_neg q_1, if_neg q_2, if_neg q_3, if_neg q_4, if_neg q_5, if_neg q_6, if_neg q_7, if_pos (rfl : nI 8 = nI 8), if_neg c_136])⟩) hP hS dX6_reader_151
      · skip
        refine lv_aload_n hx hb dX6_reader_139 rfl (lv_at hl 0 rfl) ?_
        refine kget X hP oX g_X6_12 rfl dX6_reader_140 ?_
        refine lv_aload_n hx hb dX6_reader_143 rfl (lv_at hl 3 rfl) ?_
        refine kcV X hP hS (c_X4_oldVersionsSeenBy l hI (j := 0) (P := P) (by omega) (by omega) (fun c hc => ⟨(hp c hc).1, (hp c hc).2.2⟩)) (oS (j := 0) (by omega)) v_X6_201 ⟨Nat.le_of_ble_eq_true rfl, Nat.le_of_ble_eq_true rfl, rfl, rfl⟩ rfl rfl (Nat.le_of_ble_eq_true rfl) hl.1 ⟨Nat.zero_le _, Nat.zero_le _⟩ dX6_reader_144 (fun r_144 G_144 H locs hR hP hS => ?_)
        obtain ⟨rfl, hG_144⟩ := hR
        rw [hG_144] at hP
        clear hG_144
        refine lv_goto (tgt := 151) hx hb dX6_reader_147 (by decide) ?_
        exact hret _ _ _ _ _ _ (⟨rfl, rdP_h hr hn4 (by rw [rdC, if_neg q_0, if_neg q_1, if_neg q_2, if_neg q_3, if_neg q_4, if_neg q_5, if_neg q_6, if_neg q_7, if_pos (rfl : nI 8 = nI 8), if_pos c_136])⟩) hP hS dX6_reader_151
    by_cases q_9 : y = nI 9
    · skip
      subst q_9
      refine lv_tableIn (off := 128) (tgt := 152) hx hb dX6_reader_24 (by decide) (by decide) rfl (by decide) ?_
      refine lv_aload_n hx hb dX6_reader_152 rfl (lv_at hl 3 rfl) ?_
      refine kcV X hP hS (c_X3_isOpen l hI (j := 0) (by omega) (by omega)) (oR (j := 0) (r := r) (by omega) (by omega)) v_X6_59 ⟨Nat.le_of_ble_eq_true rfl, Nat.le_of_ble_eq_true rfl, rfl, rfl⟩ rfl rfl (Nat.le_of_ble_eq_true rfl) hl.1 ⟨Nat.zero_le _, Nat.zero_le _⟩ dX6_reader_153 (fun r_153 G_153 H locs hR hP hS => ?_)
      obtain ⟨rfl, hG_153⟩ := hR
      rw [hG_153] at hP
      clear hG_153
      first
        | refine kif_eq (tgt := 170) hx hb dX6_reader_156 (by decide) (fun c_156 => ?_) (fun c_156 => ?_)
        | refine lv_if_eq (tgt := 170) hx hb dX6_reader_156 (by decide) (fun c_156 => ?_) (fun c_156 => ?_)
      · skip
        refine lv_iconst (v := nI 0) hx hb dX6_reader_170 (by decide) ?_
        exact hret _ _ _ _ _ _ (⟨rfl, rdP_h hr hn4 (by rw [rdC, if_neg q_0, if_neg q_1, if_neg q_2, if_neg q_3, if_neg q_4, if_neg q_5, if_neg q_6, if_neg q_7, if_neg q_8, if_pos (rfl : nI 9 = nI 9), if_neg c_156])⟩) hP hS dX6_reader_171
      · skip
        refine lv_aload_n hx hb dX6_reader_159 rfl (lv_at hl 0 rfl) ?_
        refine kget X hP oX g_X6_12 rfl dX6_reader_160 ?_
        refine lv_aload_n hx hb dX6_reader_163 rfl (lv_at hl 3 rfl) ?_
        refine kcV X hP hS (c_X4_sumSeenBy l hI (j := 0) (P := P) (by omega) (by omega) (fun c hc => ⟨(hp c hc).1, (hp c hc).2.2⟩)) (oS (j := 0) (by omega)) v_X6_204 ⟨Nat.le_of_ble_eq_true rfl, Nat.le_of_ble_eq_true rfl, rfl, rfl⟩ rfl rfl (Nat.le_of_ble_eq_true rfl) hl.1 ⟨Nat.zero_le _, Nat.zero_le _⟩ dX6_reader_164 (fun r_164 G_164 H locs hR hP hS => ?_)
        obtain ⟨rfl, hG_164⟩ := hR
        rw [hG_164] at hP
        clear hG_164
        refine lv_goto (tgt := 171) hx hb dX6_reader_167 (by decide) ?_
        exact hret _ _ _ _ _ _ (⟨rfl, rdP_h hr hn4 (by rw [rdC, if_neg q_0, if_neg q_1, if_neg q_2, if_neg q_3, if_neg q_4, if_neg q_5, if_neg q_6, if_neg q_7, if_neg q_8, if_pos (rfl : nI 9 = nI 9), if_pos c_156])⟩) hP hS dX6_reader_171
    by_cases q_10 : y = nI 10
    · skip
      subst q_10
      refine lv_tableIn (off := 148) (tgt := 172) hx hb dX6_reader_24 (by decide) (by decide) rfl (by decide) ?_
      refine lv_aload_n hx hb dX6_reader_172 rfl (lv_at hl 3 rfl) ?_
      refine kcV X hP hS (c_X3_isOpen l hI (j := 0) (by omega) (by omega)) (oR (j := 0) (r := r) (by omega) (by omega)) v_X6_59 ⟨Nat.le_of_ble_eq_true rfl, Nat.le_of_ble_eq_true rfl, rfl, rfl⟩ rfl rfl (Nat.le_of_ble_eq_true rfl) hl.1 ⟨Nat.zero_le _, Nat.zero_le _⟩ dX6_reader_173 (fun r_173 G_173 H locs hR hP hS => ?_)
      obtain ⟨rfl, hG_173⟩ := hR
      rw [hG_173] at hP
      clear hG_173
      first
        | refine kif_eq (tgt := 194) hx hb dX6_reader_176 (by decide) (fun c_176 => ?_) (fun c_176 => ?_)
        | refine lv_if_eq (tgt := 194) hx hb dX6_reader_176 (by decide) (fun c_176 => ?_) (fun c_176 => ?_)
      · skip
        refine lv_iconst (v := nI 0) hx hb dX6_reader_194 (by decide) ?_
        exact hret _ _ _ _ _ _ (⟨rfl, rdP_h hr hn4 (by rw [rdC, if_neg q_0, if_neg q_1, if_neg q_2, if_neg q_3, if_neg q_4, if_neg q_5, if_neg q_6, if_neg q_7, if_neg q_8, if_neg q_9, if_pos (rfl : nI 10 = nI 10), if_neg (fun z => c_176 z.1)])⟩) hP hS dX6_reader_195
      · skip
        refine lv_aload_n hx hb dX6_reader_179 rfl (lv_at hl 0 rfl) ?_
        refine kget X hP oX g_X6_12 rfl dX6_reader_180 ?_
        refine lv_aload_n hx hb dX6_reader_183 rfl (lv_at hl 3 rfl) ?_
        refine kcV X hP hS (c_X4_hasConflict l hI (j := 0) (by omega) (by omega)) (oS (j := 0) (by omega)) v_X6_130 ⟨Nat.le_of_ble_eq_true rfl, Nat.le_of_ble_eq_true rfl, rfl, rfl⟩ rfl rfl (Nat.le_of_ble_eq_true rfl) hl.1 ⟨Nat.zero_le _, Nat.zero_le _⟩ dX6_reader_184 (fun r_184 G_184 H locs hR hP hS => ?_)
        obtain ⟨rfl, hG_184⟩ := hR
        rw [hG_184] at hP
        clear hG_184
        first
          | refine kif_eq (tgt := 194) hx hb dX6_reader_187 (by decide) (fun c_187 => ?_) (fun c_187 => ?_)
          | refine lv_if_eq (tgt := 194) hx hb dX6_reader_187 (by decide) (fun c_187 => ?_) (fun c_187 => ?_)
        · skip
          refine lv_iconst (v := nI 0) hx hb dX6_reader_194 (by decide) ?_
          exact hret _ _ _ _ _ _ (⟨rfl, rdP_h hr hn4 (by rw [rdC, if_neg q_0, if_neg q_1, if_neg q_2, if_neg q_3, if_neg q_4, if_neg q_5, if_neg q_6, if_neg q_7, if_neg q_8, if_neg q_9, if_pos (rfl : nI 10 = nI 10), if_neg (fun z => c_187 z.2)])⟩) hP hS dX6_reader_195
        · skip
          refine lv_iconst (v := nI 1) hx hb dX6_reader_190 (by decide) ?_
          refine lv_goto (tgt := 195) hx hb dX6_reader_191 (by decide) ?_
          exact hret _ _ _ _ _ _ (⟨rfl, rdP_h hr hn4 (by rw [rdC, if_neg q_0, if_neg q_1, if_neg q_2, if_neg q_3, if_neg q_4, if_neg q_5, if_neg q_6, if_neg q_7, if_neg q_8, if_neg q_9, if_pos (rfl : nI 10 = nI 10), if_pos ⟨c_176, c_187⟩])⟩) hP hS dX6_reader_195
    by_cases q_11 : y = nI 11
    · skip
      subst q_11
      refine lv_tableIn (off := 172) (tgt := 196) hx hb dX6_reader_24 (by decide) (by decide) rfl (by decide) ?_
      refine lv_aload_n hx hb dX6_reader_196 rfl (lv_at hl 3 rfl) ?_
      refine kcV X hP hS (c_X3_isOpen l hI (j := 0) (by omega) (by omega)) (oR (j := 0) (r := r) (by omega) (by omega)) v_X6_59 ⟨Nat.le_of_ble_eq_true rfl, Nat.le_of_ble_eq_true rfl, rfl, rfl⟩ rfl rfl (Nat.le_of_ble_eq_true rfl) hl.1 ⟨Nat.zero_le _, Nat.zero_le _⟩ dX6_reader_197 (fun r_197 G_197 H locs hR hP hS => ?_)
      obtain ⟨rfl, hG_197⟩ := hR
      rw [hG_197] at hP
      clear hG_197
      first
        | refine kif_eq (tgt := 214) hx hb dX6_reader_200 (by decide) (fun c_200 => ?_) (fun c_200 => ?_)
        | refine lv_if_eq (tgt := 214) hx hb dX6_reader_200 (by decide) (fun c_200 => ?_) (fun c_200 => ?_)
      · skip
        refine lv_iconst (v := nI 0) hx hb dX6_reader_214 (by decide) ?_
        exact hret _ _ _ _ _ _ (⟨rfl, rdP_h hr hn4 (by rw [rdC, if_neg q_0, if_neg q_1, if_neg q_2, if_neg q_3, if_neg q_4, if_neg q_5, if_neg q_6, if_neg q_7, if_neg q_8, if_neg q_9, if_neg q_10, if_pos (rfl : nI 11 = nI 11), if_neg c_200])⟩) hP hS dX6_reader_215
      · skip
        refine lv_aload_n hx hb dX6_reader_203 rfl (lv_at hl 0 rfl) ?_
        refine kget X hP oX g_X6_12 rfl dX6_reader_204 ?_
        refine lv_aload_n hx hb dX6_reader_207 rfl (lv_at hl 3 rfl) ?_
        refine kcV X hP hS (c_X4_skewsOf l hI (j := 0) (k := k) (by omega) hk hk4 (by omega)) (oS (j := 0) (by omega)) v_X6_134 ⟨Nat.le_of_ble_eq_true rfl, Nat.le_of_ble_eq_true rfl, rfl, rfl⟩ rfl rfl (Nat.le_of_ble_eq_true rfl) hl.1 ⟨Nat.zero_le _, Nat.zero_le _⟩ dX6_reader_208 (fun r_208 G_208 H locs hR hP hS => ?_)
        obtain ⟨rfl, hG_208⟩ := hR
        rw [hG_208] at hP
        clear hG_208
        refine lv_goto (tgt := 215) hx hb dX6_reader_211 (by decide) ?_
        exact hret _ _ _ _ _ _ (⟨rfl, rdP_h hr hn4 (by rw [rdC, if_neg q_0, if_neg q_1, if_neg q_2, if_neg q_3, if_neg q_4, if_neg q_5, if_neg q_6, if_neg q_7, if_neg q_8, if_neg q_9, if_neg q_10, if_pos (rfl : nI 11 = nI 11), if_pos c_200])⟩) hP hS dX6_reader_215
    refine lv_tableOut (tgt := 216) hx hb dX6_reader_24 (tb_out 11 (by decide) (fun i hi => by
        rcases (show i = 0 ∨ i = 1 ∨ i = 2 ∨ i = 3 ∨ i = 4 ∨ i = 5 ∨ i = 6 ∨ i = 7 ∨ i = 8 ∨ i = 9 ∨ i = 10 ∨ i = 11 by omega) with rfl | rfl | rfl | rfl | rfl | rfl | rfl | rfl | rfl | rfl | rfl | rfl <;> assumption)) (by decide) ?_
    refine lv_bipush (v := (-2)) hx hb dX6_reader_216 (by decide) ?_
    exact hret _ _ _ _ _ _ (⟨rfl, rdP_h hr hn4 (by rw [rdC, if_neg q_0, if_neg q_1, if_neg q_2, if_neg q_3, if_neg q_4, if_neg q_5, if_neg q_6, if_neg q_7, if_neg q_8, if_neg q_9, if_neg q_10, if_neg q_11])⟩) hP hS dX6_reader_218
  · skip
    have hms := hsR_no hn4 (by rw [hn] at c_8; exact c_8)
    refine lv_iconst (v := (-1)) hx hb dX6_reader_11 (by decide) ?_
    exact hret _ _ _ _ _ _ (⟨rfl, rdP_m hms rfl⟩) hP hS dX6_reader_12
