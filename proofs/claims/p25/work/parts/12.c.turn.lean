set_option maxHeartbeats 4000000 in
set_option maxRecDepth 100000 in
theorem c_L_any (l : Launch) {D : va_G} {τ : Nat → ClassId} {ad : Nat → Nat} (hI : kInj ad) {G : Nat → Nat → Int32} {x y : Int32} {N : Nat → Int32} {L : Nat} {Hs : Nat → Nat → Int32} (hN : RLN G N L Hs) {put : Nat} (hV : INV N (nZ (N 2)) (nZ (N 8)) put) : kM l yL_any cL_any 3 (some .int) { frames := 7, cells := 0, slots := 0, locals := 162 } D τ ad [.ref (ad 7), .int x, .int y] G (fun v G' => PSTx G N L Hs put (anyX N x y) v G') := by
  refine kMet (own := RL) (by decide) rfl (Nat.le_of_ble_eq_true rfl) ?_
  intro p9 e9 s9 m9 args9 below9 meth9 c9 Q9 X hx hb hP hS hret ls hl
  have hl : lv_has ls 3 [(0, .ref (ad 7)), (1, .int x), (2, .int y)] := hl
  refine lv_iload_n hx hb dL_any_0 rfl (lv_at hl 2 rfl) ?_
  refine lv_bipush (v := nI 7) hx hb dL_any_1 (by decide) ?_
  refine lv_iand hx hb dL_any_3 ?_
  by_cases q_0 : (y &&& nI 7) = nI 0
  · skip
    rw [q_0]
    refine lv_tableIn (off := 44) (tgt := 48) hx hb dL_any_4 (by decide) (by decide) rfl (by decide) ?_
    refine lv_aload_n hx hb dL_any_48 rfl (lv_at hl 0 rfl) ?_
    refine lv_iload_n hx hb dL_any_49 rfl (lv_at hl 1 rfl) ?_
    refine kcV X hP hS (lx_open l hI hN hV) oX v_L_33 ⟨Nat.le_of_ble_eq_true rfl, Nat.le_of_ble_eq_true rfl, rfl, rfl⟩ rfl rfl (Nat.le_of_ble_eq_true rfl) hl.1 ⟨Nat.zero_le _, Nat.zero_le _⟩ dL_any_50 (fun r_50 G_50 H locs hR hP hS => ?_)
    have h_50 := hR
    exact hret _ _ _ _ _ _ (by unfold anyX; rw [if_pos q_0]; exact h_50) hP hS dL_any_53
  by_cases q_1 : (y &&& nI 7) = nI 1
  · skip
    rw [q_1]
    refine lv_tableIn (off := 50) (tgt := 54) hx hb dL_any_4 (by decide) (by decide) rfl (by decide) ?_
    refine lv_aload_n hx hb dL_any_54 rfl (lv_at hl 0 rfl) ?_
    refine lv_iload_n hx hb dL_any_55 rfl (lv_at hl 1 rfl) ?_
    refine lv_iload_n hx hb dL_any_56 rfl (lv_at hl 2 rfl) ?_
    refine kcV X hP hS (lx_pay l hI hN hV) oX v_L_36 ⟨Nat.le_of_ble_eq_true rfl, Nat.le_of_ble_eq_true rfl, rfl, rfl⟩ rfl rfl (Nat.le_of_ble_eq_true rfl) hl.1 ⟨Nat.zero_le _, Nat.zero_le _⟩ dL_any_57 (fun r_57 G_57 H locs hR hP hS => ?_)
    have h_57 := hR
    exact hret _ _ _ _ _ _ (by unfold anyX; rw [if_neg q_0, if_pos q_1]; exact h_57) hP hS dL_any_60
  by_cases q_2 : (y &&& nI 7) = nI 2
  · skip
    rw [q_2]
    refine lv_tableIn (off := 57) (tgt := 61) hx hb dL_any_4 (by decide) (by decide) rfl (by decide) ?_
    refine lv_aload_n hx hb dL_any_61 rfl (lv_at hl 0 rfl) ?_
    refine lv_iload_n hx hb dL_any_62 rfl (lv_at hl 1 rfl) ?_
    refine lv_iload_n hx hb dL_any_63 rfl (lv_at hl 2 rfl) ?_
    refine kcV X hP hS (lx_widow l hI hN hV) oX v_L_39 ⟨Nat.le_of_ble_eq_true rfl, Nat.le_of_ble_eq_true rfl, rfl, rfl⟩ rfl rfl (Nat.le_of_ble_eq_true rfl) hl.1 ⟨Nat.zero_le _, Nat.zero_le _⟩ dL_any_64 (fun r_64 G_64 H locs hR hP hS => ?_)
    have h_64 := hR
    exact hret _ _ _ _ _ _ (by unfold anyX; rw [if_neg q_0, if_neg q_1, if_pos q_2]; exact h_64) hP hS dL_any_67
  by_cases q_3 : (y &&& nI 7) = nI 3
  · skip
    rw [q_3]
    refine lv_tableIn (off := 64) (tgt := 68) hx hb dL_any_4 (by decide) (by decide) rfl (by decide) ?_
    refine lv_aload_n hx hb dL_any_68 rfl (lv_at hl 0 rfl) ?_
    refine lv_iload_n hx hb dL_any_69 rfl (lv_at hl 1 rfl) ?_
    refine kcV X hP hS (lx_close l hI hN hV) oX v_L_42 ⟨Nat.le_of_ble_eq_true rfl, Nat.le_of_ble_eq_true rfl, rfl, rfl⟩ rfl rfl (Nat.le_of_ble_eq_true rfl) hl.1 ⟨Nat.zero_le _, Nat.zero_le _⟩ dL_any_70 (fun r_70 G_70 H locs hR hP hS => ?_)
    have h_70 := hR
    exact hret _ _ _ _ _ _ (by unfold anyX; rw [if_neg q_0, if_neg q_1, if_neg q_2, if_pos q_3]; exact h_70) hP hS dL_any_73
  by_cases q_4 : (y &&& nI 7) = nI 4
  · skip
    rw [q_4]
    refine lv_tableIn (off := 70) (tgt := 74) hx hb dL_any_4 (by decide) (by decide) rfl (by decide) ?_
    refine lv_aload_n hx hb dL_any_74 rfl (lv_at hl 0 rfl) ?_
    refine lv_iload_n hx hb dL_any_75 rfl (lv_at hl 1 rfl) ?_
    refine kcV X hP hS (lx_setRent l hI hN hV) oX v_L_45 ⟨Nat.le_of_ble_eq_true rfl, Nat.le_of_ble_eq_true rfl, rfl, rfl⟩ rfl rfl (Nat.le_of_ble_eq_true rfl) hl.1 ⟨Nat.zero_le _, Nat.zero_le _⟩ dL_any_76 (fun r_76 G_76 H locs hR hP hS => ?_)
    have h_76 := hR
    exact hret _ _ _ _ _ _ (by unfold anyX; rw [if_neg q_0, if_neg q_1, if_neg q_2, if_neg q_3, if_pos q_4]; exact h_76) hP hS dL_any_79
  by_cases q_5 : (y &&& nI 7) = nI 5
  · skip
    rw [q_5]
    refine lv_tableIn (off := 76) (tgt := 80) hx hb dL_any_4 (by decide) (by decide) rfl (by decide) ?_
    refine lv_aload_n hx hb dL_any_80 rfl (lv_at hl 0 rfl) ?_
    refine lv_iload_n hx hb dL_any_81 rfl (lv_at hl 1 rfl) ?_
    refine kcV X hP hS (lx_tick l hI hN hV) oX v_L_48 ⟨Nat.le_of_ble_eq_true rfl, Nat.le_of_ble_eq_true rfl, rfl, rfl⟩ rfl rfl (Nat.le_of_ble_eq_true rfl) hl.1 ⟨Nat.zero_le _, Nat.zero_le _⟩ dL_any_82 (fun r_82 G_82 H locs hR hP hS => ?_)
    have h_82 := hR
    exact hret _ _ _ _ _ _ (by unfold anyX; rw [if_neg q_0, if_neg q_1, if_neg q_2, if_neg q_3, if_neg q_4, if_pos q_5]; exact h_82) hP hS dL_any_85
  by_cases q_6 : (y &&& nI 7) = nI 6
  · skip
    rw [q_6]
    refine lv_tableIn (off := 82) (tgt := 86) hx hb dL_any_4 (by decide) (by decide) rfl (by decide) ?_
    refine lv_aload_n hx hb dL_any_86 rfl (lv_at hl 0 rfl) ?_
    refine lv_iload_n hx hb dL_any_87 rfl (lv_at hl 1 rfl) ?_
    refine lv_iload_n hx hb dL_any_88 rfl (lv_at hl 2 rfl) ?_
    refine lv_iload_n hx hb dL_any_89 rfl (lv_at hl 1 rfl) ?_
    refine kcV X hP hS (lx_write l hI hN hV) oX v_L_51 ⟨Nat.le_of_ble_eq_true rfl, Nat.le_of_ble_eq_true rfl, rfl, rfl⟩ rfl rfl (Nat.le_of_ble_eq_true rfl) hl.1 ⟨Nat.zero_le _, Nat.zero_le _⟩ dL_any_90 (fun r_90 G_90 H locs hR hP hS => ?_)
    have h_90 := hR
    exact hret _ _ _ _ _ _ (by unfold anyX; rw [if_neg q_0, if_neg q_1, if_neg q_2, if_neg q_3, if_neg q_4, if_neg q_5, if_pos q_6]; exact h_90) hP hS dL_any_93
  refine lv_tableOut (tgt := 94) hx hb dL_any_4 (tb_out 6 (by decide) (fun i hi => by
      rcases (show i = 0 ∨ i = 1 ∨ i = 2 ∨ i = 3 ∨ i = 4 ∨ i = 5 ∨ i = 6 by omega) with rfl | rfl | rfl | rfl | rfl | rfl | rfl <;> assumption)) (by decide) ?_
  refine lv_aload_n hx hb dL_any_94 rfl (lv_at hl 0 rfl) ?_
  refine lv_iload_n hx hb dL_any_95 rfl (lv_at hl 1 rfl) ?_
  refine kcV X hP hS (lx_commit l hI hN hV) oX v_L_54 ⟨Nat.le_of_ble_eq_true rfl, Nat.le_of_ble_eq_true rfl, rfl, rfl⟩ rfl rfl (Nat.le_of_ble_eq_true rfl) hl.1 ⟨Nat.zero_le _, Nat.zero_le _⟩ dL_any_96 (fun r_96 G_96 H locs hR hP hS => ?_)
  have h_96 := hR
  exact hret _ _ _ _ _ _ (by unfold anyX; rw [if_neg q_0, if_neg q_1, if_neg q_2, if_neg q_3, if_neg q_4, if_neg q_5, if_neg q_6]; exact h_96) hP hS dL_any_99

set_option maxHeartbeats 4000000 in
set_option maxRecDepth 100000 in
theorem c_L_turn (l : Launch) {D : va_G} {τ : Nat → ClassId} {ad : Nat → Nat} (hI : kInj ad) {G : Nat → Nat → Int32} {w a b : Int32} {N : Nat → Int32} {L : Nat} {Hs : Nat → Nat → Int32} (hN : RLN G N L Hs) {put : Nat} (hV : INV N (nZ (N 2)) (nZ (N 8)) put) : kM l yL_turn cL_turn 5 (some .int) { frames := 8, cells := 0, slots := 0, locals := 184 } D τ ad [.ref (ad 7), .int w, .int a, .int b] G (fun v G' => PSTx G N L Hs put (turnX N w a b) v G') := by
  refine kMet (own := RL) (by decide) rfl (Nat.le_of_ble_eq_true rfl) ?_
  intro p9 e9 s9 m9 args9 below9 meth9 c9 Q9 X hx hb hP hS hret ls hl
  have hl : lv_has ls 5 [(0, .ref (ad 7)), (1, .int w), (2, .int a), (3, .int b)] := hl
  obtain ⟨n, k, hn2, hn4, hk2, hk4, hnz, hkz, hL4⟩ := rln_n hN
  have hne : ¬ N 2 + nI 1 = 0 := by rw [hn2, nI_add]; exact nI_ne0 (by omega) (by omega)
  refine lv_iload_n hx hb dL_turn_0 rfl (lv_at hl 2 rfl) ?_
  refine lv_aload_n hx hb dL_turn_1 rfl (lv_at hl 0 rfl) ?_
  refine lv_iconst (v := nI 2) hx hb dL_turn_2 (by decide) ?_
  refine kcV X hP hS (ln_count l hI hN (by decide)) oX v_L_13 ⟨Nat.le_of_ble_eq_true rfl, Nat.le_of_ble_eq_true rfl, rfl, rfl⟩ rfl rfl (Nat.le_of_ble_eq_true rfl) hl.1 ⟨Nat.zero_le _, Nat.zero_le _⟩ dL_turn_3 (fun r_3 G_3 H locs hR hP hS => ?_)
  obtain ⟨rfl, hG_3⟩ := hR
  rw [hG_3] at hP
  clear hG_3
  rw [aCt_2]
  refine lv_iconst (v := nI 1) hx hb dL_turn_6 (by decide) ?_
  first
    | refine kadd hx hb dL_turn_7 (by with_reducible rfl) (by with_reducible rfl) ?_
    | refine lv_iadd hx hb dL_turn_7 ?_
  refine kcS X hP hS (c_L_up l hI hne) v_L_57 ⟨Nat.le_of_ble_eq_true rfl, Nat.le_of_ble_eq_true rfl, rfl, rfl⟩ rfl rfl (Nat.le_of_ble_eq_true rfl) hl.1 ⟨Nat.zero_le _, Nat.zero_le _⟩ dL_turn_8 (fun r_8 G_8 H locs hR hP hS => ?_)
  obtain ⟨rfl, hG_8⟩ := hR
  rw [hG_8] at hP
  clear hG_8
  refine kistW hx hb dL_turn_11 hl (by decide) (kq_0i1i2i3i_4i rfl) (fun ls hl => ?_)
  refine lv_iload_n hx hb dL_turn_13 rfl (lv_at hl 1 rfl) ?_
  by_cases q_0 : w = nI 0
  · skip
    rw [q_0]
    refine lv_tableIn (off := 74) (tgt := 88) hx hb dL_turn_14 (by decide) (by decide) rfl (by decide) ?_
    refine lv_aload_n hx hb dL_turn_88 rfl (lv_at hl 0 rfl) ?_
    refine lv_iload_n hx hb dL_turn_89 rfl (lv_at hl 3 rfl) ?_
    refine lv_iload_n hx hb dL_turn_90 rfl (lv_at hl 2 rfl) ?_
    refine lv_iconst (v := nI 3) hx hb dL_turn_91 (by decide) ?_
    refine lv_iand hx hb dL_turn_92 ?_
    first
      | refine kif_ne (tgt := 102) hx hb dL_turn_93 (by decide) (fun c_93 => ?_) (fun c_93 => ?_)
      | refine lv_if_ne (tgt := 102) hx hb dL_turn_93 (by decide) (fun c_93 => ?_) (fun c_93 => ?_)
    · skip
      refine lv_bipush (v := nI 60) hx hb dL_turn_102 (by decide) ?_
      refine kcS X hP hS (c_L_up l hI (by decide)) v_L_57 ⟨Nat.le_of_ble_eq_true rfl, Nat.le_of_ble_eq_true rfl, rfl, rfl⟩ rfl rfl (Nat.le_of_ble_eq_true rfl) hl.1 ⟨Nat.zero_le _, Nat.zero_le _⟩ dL_turn_104 (fun r_104 G_104 H locs hR hP hS => ?_)
      obtain ⟨rfl, hG_104⟩ := hR
      rw [hG_104] at hP
      clear hG_104
      refine kcV X hP hS (lx_open l hI hN hV) oX v_L_33 ⟨Nat.le_of_ble_eq_true rfl, Nat.le_of_ble_eq_true rfl, rfl, rfl⟩ rfl rfl (Nat.le_of_ble_eq_true rfl) hl.1 ⟨Nat.zero_le _, Nat.zero_le _⟩ dL_turn_107 (fun r_107 G_107 H locs hR hP hS => ?_)
      have h_107 := hR
      exact hret _ _ _ _ _ _ (by unfold turnX; rw [if_pos q_0, if_neg c_93]; exact h_107) hP hS dL_turn_110
    · skip
      refine lv_sipush (v := nI 10000) hx hb dL_turn_96 (by decide) ?_
      refine lv_goto (tgt := 104) hx hb dL_turn_99 (by decide) ?_
      refine kcS X hP hS (c_L_up l hI (by decide)) v_L_57 ⟨Nat.le_of_ble_eq_true rfl, Nat.le_of_ble_eq_true rfl, rfl, rfl⟩ rfl rfl (Nat.le_of_ble_eq_true rfl) hl.1 ⟨Nat.zero_le _, Nat.zero_le _⟩ dL_turn_104 (fun r_104 G_104 H locs hR hP hS => ?_)
      obtain ⟨rfl, hG_104⟩ := hR
      rw [hG_104] at hP
      clear hG_104
      refine kcV X hP hS (lx_open l hI hN hV) oX v_L_33 ⟨Nat.le_of_ble_eq_true rfl, Nat.le_of_ble_eq_true rfl, rfl, rfl⟩ rfl rfl (Nat.le_of_ble_eq_true rfl) hl.1 ⟨Nat.zero_le _, Nat.zero_le _⟩ dL_turn_107 (fun r_107 G_107 H locs hR hP hS => ?_)
      have h_107 := hR
      exact hret _ _ _ _ _ _ (by unfold turnX; rw [if_pos q_0, if_pos c_93]; exact h_107) hP hS dL_turn_110
  by_cases q_1 : w = nI 1
  · skip
    rw [q_1]
    refine lv_tableIn (off := 74) (tgt := 88) hx hb dL_turn_14 (by decide) (by decide) rfl (by decide) ?_
    refine lv_aload_n hx hb dL_turn_88 rfl (lv_at hl 0 rfl) ?_
    refine lv_iload_n hx hb dL_turn_89 rfl (lv_at hl 3 rfl) ?_
    refine lv_iload_n hx hb dL_turn_90 rfl (lv_at hl 2 rfl) ?_
    refine lv_iconst (v := nI 3) hx hb dL_turn_91 (by decide) ?_
    refine lv_iand hx hb dL_turn_92 ?_
    first
      | refine kif_ne (tgt := 102) hx hb dL_turn_93 (by decide) (fun c_93 => ?_) (fun c_93 => ?_)
      | refine lv_if_ne (tgt := 102) hx hb dL_turn_93 (by decide) (fun c_93 => ?_) (fun c_93 => ?_)
    · skip
      refine lv_bipush (v := nI 60) hx hb dL_turn_102 (by decide) ?_
      refine kcS X hP hS (c_L_up l hI (by decide)) v_L_57 ⟨Nat.le_of_ble_eq_true rfl, Nat.le_of_ble_eq_true rfl, rfl, rfl⟩ rfl rfl (Nat.le_of_ble_eq_true rfl) hl.1 ⟨Nat.zero_le _, Nat.zero_le _⟩ dL_turn_104 (fun r_104 G_104 H locs hR hP hS => ?_)
      obtain ⟨rfl, hG_104⟩ := hR
      rw [hG_104] at hP
      clear hG_104
      refine kcV X hP hS (lx_open l hI hN hV) oX v_L_33 ⟨Nat.le_of_ble_eq_true rfl, Nat.le_of_ble_eq_true rfl, rfl, rfl⟩ rfl rfl (Nat.le_of_ble_eq_true rfl) hl.1 ⟨Nat.zero_le _, Nat.zero_le _⟩ dL_turn_107 (fun r_107 G_107 H locs hR hP hS => ?_)
      have h_107 := hR
      exact hret _ _ _ _ _ _ (by unfold turnX; rw [if_neg q_0, if_pos q_1, if_neg c_93]; exact h_107) hP hS dL_turn_110
    · skip
      refine lv_sipush (v := nI 10000) hx hb dL_turn_96 (by decide) ?_
      refine lv_goto (tgt := 104) hx hb dL_turn_99 (by decide) ?_
      refine kcS X hP hS (c_L_up l hI (by decide)) v_L_57 ⟨Nat.le_of_ble_eq_true rfl, Nat.le_of_ble_eq_true rfl, rfl, rfl⟩ rfl rfl (Nat.le_of_ble_eq_true rfl) hl.1 ⟨Nat.zero_le _, Nat.zero_le _⟩ dL_turn_104 (fun r_104 G_104 H locs hR hP hS => ?_)
      obtain ⟨rfl, hG_104⟩ := hR
      rw [hG_104] at hP
      clear hG_104
      refine kcV X hP hS (lx_open l hI hN hV) oX v_L_33 ⟨Nat.le_of_ble_eq_true rfl, Nat.le_of_ble_eq_true rfl, rfl, rfl⟩ rfl rfl (Nat.le_of_ble_eq_true rfl) hl.1 ⟨Nat.zero_le _, Nat.zero_le _⟩ dL_turn_107 (fun r_107 G_107 H locs hR hP hS => ?_)
      have h_107 := hR
      exact hret _ _ _ _ _ _ (by unfold turnX; rw [if_neg q_0, if_pos q_1, if_pos c_93]; exact h_107) hP hS dL_turn_110
  by_cases q_2 : w = nI 2
  · skip
    rw [q_2]
    refine lv_tableIn (off := 97) (tgt := 111) hx hb dL_turn_14 (by decide) (by decide) rfl (by decide) ?_
    refine lv_aload_n hx hb dL_turn_111 rfl (lv_at hl 0 rfl) ?_
    refine lv_iload hx hb dL_turn_112 (lv_at hl 4 rfl) ?_
    refine lv_iconst (v := nI 1) hx hb dL_turn_114 (by decide) ?_
    refine lv_iload_n hx hb dL_turn_115 rfl (lv_at hl 3 rfl) ?_
    refine lv_sipush (v := nI 200) hx hb dL_turn_116 (by decide) ?_
    refine kcS X hP hS (c_L_up l hI (by decide)) v_L_57 ⟨Nat.le_of_ble_eq_true rfl, Nat.le_of_ble_eq_true rfl, rfl, rfl⟩ rfl rfl (Nat.le_of_ble_eq_true rfl) hl.1 ⟨Nat.zero_le _, Nat.zero_le _⟩ dL_turn_119 (fun r_119 G_119 H locs hR hP hS => ?_)
    obtain ⟨rfl, hG_119⟩ := hR
    rw [hG_119] at hP
    clear hG_119
    first
      | refine kadd hx hb dL_turn_122 (by with_reducible rfl) (by with_reducible rfl) ?_
      | refine lv_iadd hx hb dL_turn_122 ?_
    refine kcV X hP hS (lx_pay l hI hN hV) oX v_L_36 ⟨Nat.le_of_ble_eq_true rfl, Nat.le_of_ble_eq_true rfl, rfl, rfl⟩ rfl rfl (Nat.le_of_ble_eq_true rfl) hl.1 ⟨Nat.zero_le _, Nat.zero_le _⟩ dL_turn_123 (fun r_123 G_123 H locs hR hP hS => ?_)
    have h_123 := hR
    exact hret _ _ _ _ _ _ (by unfold turnX; rw [if_neg q_0, if_neg q_1, if_pos q_2]; exact h_123) hP hS dL_turn_126
  by_cases q_3 : w = nI 3
  · skip
    rw [q_3]
    refine lv_tableIn (off := 113) (tgt := 127) hx hb dL_turn_14 (by decide) (by decide) rfl (by decide) ?_
    refine lv_aload_n hx hb dL_turn_127 rfl (lv_at hl 0 rfl) ?_
    refine lv_iload hx hb dL_turn_128 (lv_at hl 4 rfl) ?_
    refine lv_iconst (v := nI 1) hx hb dL_turn_130 (by decide) ?_
    refine lv_iload_n hx hb dL_turn_131 rfl (lv_at hl 3 rfl) ?_
    refine lv_iconst (v := nI 5) hx hb dL_turn_132 (by decide) ?_
    refine kcS X hP hS (c_L_up l hI (by decide)) v_L_57 ⟨Nat.le_of_ble_eq_true rfl, Nat.le_of_ble_eq_true rfl, rfl, rfl⟩ rfl rfl (Nat.le_of_ble_eq_true rfl) hl.1 ⟨Nat.zero_le _, Nat.zero_le _⟩ dL_turn_133 (fun r_133 G_133 H locs hR hP hS => ?_)
    obtain ⟨rfl, hG_133⟩ := hR
    rw [hG_133] at hP
    clear hG_133
    first
      | refine kadd hx hb dL_turn_136 (by with_reducible rfl) (by with_reducible rfl) ?_
      | refine lv_iadd hx hb dL_turn_136 ?_
    refine kcV X hP hS (lx_widow l hI hN hV) oX v_L_39 ⟨Nat.le_of_ble_eq_true rfl, Nat.le_of_ble_eq_true rfl, rfl, rfl⟩ rfl rfl (Nat.le_of_ble_eq_true rfl) hl.1 ⟨Nat.zero_le _, Nat.zero_le _⟩ dL_turn_137 (fun r_137 G_137 H locs hR hP hS => ?_)
    have h_137 := hR
    exact hret _ _ _ _ _ _ (by unfold turnX; rw [if_neg q_0, if_neg q_1, if_neg q_2, if_pos q_3]; exact h_137) hP hS dL_turn_140
  by_cases q_4 : w = nI 4
  · skip
    rw [q_4]
    refine lv_tableIn (off := 127) (tgt := 141) hx hb dL_turn_14 (by decide) (by decide) rfl (by decide) ?_
    refine lv_aload_n hx hb dL_turn_141 rfl (lv_at hl 0 rfl) ?_
    refine lv_iload hx hb dL_turn_142 (lv_at hl 4 rfl) ?_
    refine kcV X hP hS (lx_close l hI hN hV) oX v_L_42 ⟨Nat.le_of_ble_eq_true rfl, Nat.le_of_ble_eq_true rfl, rfl, rfl⟩ rfl rfl (Nat.le_of_ble_eq_true rfl) hl.1 ⟨Nat.zero_le _, Nat.zero_le _⟩ dL_turn_144 (fun r_144 G_144 H locs hR hP hS => ?_)
    have h_144 := hR
    exact hret _ _ _ _ _ _ (by unfold turnX; rw [if_neg q_0, if_neg q_1, if_neg q_2, if_neg q_3, if_pos q_4]; exact h_144) hP hS dL_turn_147
  by_cases q_5 : w = nI 5
  · skip
    rw [q_5]
    refine lv_tableIn (off := 134) (tgt := 148) hx hb dL_turn_14 (by decide) (by decide) rfl (by decide) ?_
    refine lv_iload_n hx hb dL_turn_148 rfl (lv_at hl 2 rfl) ?_
    refine lv_iconst (v := nI 1) hx hb dL_turn_149 (by decide) ?_
    refine lv_iand hx hb dL_turn_150 ?_
    first
      | refine kif_ne (tgt := 167) hx hb dL_turn_151 (by decide) (fun c_151 => ?_) (fun c_151 => ?_)
      | refine lv_if_ne (tgt := 167) hx hb dL_turn_151 (by decide) (fun c_151 => ?_) (fun c_151 => ?_)
    · skip
      refine lv_aload_n hx hb dL_turn_167 rfl (lv_at hl 0 rfl) ?_
      refine lv_iload_n hx hb dL_turn_168 rfl (lv_at hl 3 rfl) ?_
      refine lv_iconst (v := nI 1) hx hb dL_turn_169 (by decide) ?_
      refine lv_iand hx hb dL_turn_170 ?_
      first
        | refine kif_ne (tgt := 178) hx hb dL_turn_171 (by decide) (fun c_171 => ?_) (fun c_171 => ?_)
        | refine lv_if_ne (tgt := 178) hx hb dL_turn_171 (by decide) (fun c_171 => ?_) (fun c_171 => ?_)
      · skip
        refine lv_iconst (v := nI 0) hx hb dL_turn_178 (by decide) ?_
        refine kcV X hP hS (lx_forbidSkew l hI (b := 0) (by omega) hN hV) oX v_L_62 ⟨Nat.le_of_ble_eq_true rfl, Nat.le_of_ble_eq_true rfl, rfl, rfl⟩ rfl rfl (Nat.le_of_ble_eq_true rfl) hl.1 ⟨Nat.zero_le _, Nat.zero_le _⟩ dL_turn_179 (fun r_179 G_179 H locs hR hP hS => ?_)
        have h_179 := hR
        exact hret _ _ _ _ _ _ (by unfold turnX; rw [if_neg q_0, if_neg q_1, if_neg q_2, if_neg q_3, if_neg q_4, if_pos q_5, if_neg c_151, if_neg c_171]; exact h_179) hP hS dL_turn_182
      · skip
        refine lv_iconst (v := nI 1) hx hb dL_turn_174 (by decide) ?_
        refine lv_goto (tgt := 179) hx hb dL_turn_175 (by decide) ?_
        refine kcV X hP hS (lx_forbidSkew l hI (b := 1) (by omega) hN hV) oX v_L_62 ⟨Nat.le_of_ble_eq_true rfl, Nat.le_of_ble_eq_true rfl, rfl, rfl⟩ rfl rfl (Nat.le_of_ble_eq_true rfl) hl.1 ⟨Nat.zero_le _, Nat.zero_le _⟩ dL_turn_179 (fun r_179 G_179 H locs hR hP hS => ?_)
        have h_179 := hR
        exact hret _ _ _ _ _ _ (by unfold turnX; rw [if_neg q_0, if_neg q_1, if_neg q_2, if_neg q_3, if_neg q_4, if_pos q_5, if_neg c_151, if_pos c_171]; exact h_179) hP hS dL_turn_182
    · skip
      refine lv_aload_n hx hb dL_turn_154 rfl (lv_at hl 0 rfl) ?_
      refine lv_iload_n hx hb dL_turn_155 rfl (lv_at hl 3 rfl) ?_
      refine lv_bipush (v := nI 100) hx hb dL_turn_156 (by decide) ?_
      refine kcS X hP hS (c_L_up l hI (by decide)) v_L_57 ⟨Nat.le_of_ble_eq_true rfl, Nat.le_of_ble_eq_true rfl, rfl, rfl⟩ rfl rfl (Nat.le_of_ble_eq_true rfl) hl.1 ⟨Nat.zero_le _, Nat.zero_le _⟩ dL_turn_158 (fun r_158 G_158 H locs hR hP hS => ?_)
      obtain ⟨rfl, hG_158⟩ := hR
      rw [hG_158] at hP
      clear hG_158
      refine kcV X hP hS (lx_setRent l hI hN hV) oX v_L_45 ⟨Nat.le_of_ble_eq_true rfl, Nat.le_of_ble_eq_true rfl, rfl, rfl⟩ rfl rfl (Nat.le_of_ble_eq_true rfl) hl.1 ⟨Nat.zero_le _, Nat.zero_le _⟩ dL_turn_161 (fun r_161 G_161 H locs hR hP hS => ?_)
      have h_161 := hR
      refine lv_goto (tgt := 182) hx hb dL_turn_164 (by decide) ?_
      exact hret _ _ _ _ _ _ (by unfold turnX; rw [if_neg q_0, if_neg q_1, if_neg q_2, if_neg q_3, if_neg q_4, if_pos q_5, if_pos c_151]; exact h_161) hP hS dL_turn_182
  by_cases q_6 : w = nI 6
  · skip
    rw [q_6]
    refine lv_tableIn (off := 169) (tgt := 183) hx hb dL_turn_14 (by decide) (by decide) rfl (by decide) ?_
    refine lv_aload_n hx hb dL_turn_183 rfl (lv_at hl 0 rfl) ?_
    refine lv_iconst (v := nI 1) hx hb dL_turn_184 (by decide) ?_
    refine lv_iload_n hx hb dL_turn_185 rfl (lv_at hl 2 rfl) ?_
    refine lv_iconst (v := nI 3) hx hb dL_turn_186 (by decide) ?_
    refine kcS X hP hS (c_L_up l hI (by decide)) v_L_57 ⟨Nat.le_of_ble_eq_true rfl, Nat.le_of_ble_eq_true rfl, rfl, rfl⟩ rfl rfl (Nat.le_of_ble_eq_true rfl) hl.1 ⟨Nat.zero_le _, Nat.zero_le _⟩ dL_turn_187 (fun r_187 G_187 H locs hR hP hS => ?_)
    obtain ⟨rfl, hG_187⟩ := hR
    rw [hG_187] at hP
    clear hG_187
    first
      | refine kadd hx hb dL_turn_190 (by with_reducible rfl) (by with_reducible rfl) ?_
      | refine lv_iadd hx hb dL_turn_190 ?_
    refine kcV X hP hS (lx_tick l hI hN hV) oX v_L_48 ⟨Nat.le_of_ble_eq_true rfl, Nat.le_of_ble_eq_true rfl, rfl, rfl⟩ rfl rfl (Nat.le_of_ble_eq_true rfl) hl.1 ⟨Nat.zero_le _, Nat.zero_le _⟩ dL_turn_191 (fun r_191 G_191 H locs hR hP hS => ?_)
    have h_191 := hR
    exact hret _ _ _ _ _ _ (by unfold turnX; rw [if_neg q_0, if_neg q_1, if_neg q_2, if_neg q_3, if_neg q_4, if_neg q_5, if_pos q_6]; exact h_191) hP hS dL_turn_194
  by_cases q_7 : w = nI 7
  · skip
    rw [q_7]
    refine lv_tableIn (off := 181) (tgt := 195) hx hb dL_turn_14 (by decide) (by decide) rfl (by decide) ?_
    refine lv_aload_n hx hb dL_turn_195 rfl (lv_at hl 0 rfl) ?_
    refine lv_iload hx hb dL_turn_196 (lv_at hl 4 rfl) ?_
    refine lv_iload_n hx hb dL_turn_198 rfl (lv_at hl 3 rfl) ?_
    refine lv_bipush (v := nI 12) hx hb dL_turn_199 (by decide) ?_
    refine kcS X hP hS (c_L_up l hI (by decide)) v_L_57 ⟨Nat.le_of_ble_eq_true rfl, Nat.le_of_ble_eq_true rfl, rfl, rfl⟩ rfl rfl (Nat.le_of_ble_eq_true rfl) hl.1 ⟨Nat.zero_le _, Nat.zero_le _⟩ dL_turn_201 (fun r_201 G_201 H locs hR hP hS => ?_)
    obtain ⟨rfl, hG_201⟩ := hR
    rw [hG_201] at hP
    clear hG_201
    refine kcV X hP hS (lx_read l hI hN hV) oX v_L_66 ⟨Nat.le_of_ble_eq_true rfl, Nat.le_of_ble_eq_true rfl, rfl, rfl⟩ rfl rfl (Nat.le_of_ble_eq_true rfl) hl.1 ⟨Nat.zero_le _, Nat.zero_le _⟩ dL_turn_204 (fun r_204 G_204 H locs hR hP hS => ?_)
    have h_204 := hR
    exact hret _ _ _ _ _ _ (by unfold turnX; rw [if_neg q_0, if_neg q_1, if_neg q_2, if_neg q_3, if_neg q_4, if_neg q_5, if_neg q_6, if_pos q_7]; exact h_204) hP hS dL_turn_207
  by_cases q_8 : w = nI 8
  · skip
    rw [q_8]
    refine lv_tableIn (off := 181) (tgt := 195) hx hb dL_turn_14 (by decide) (by decide) rfl (by decide) ?_
    refine lv_aload_n hx hb dL_turn_195 rfl (lv_at hl 0 rfl) ?_
    refine lv_iload hx hb dL_turn_196 (lv_at hl 4 rfl) ?_
    refine lv_iload_n hx hb dL_turn_198 rfl (lv_at hl 3 rfl) ?_
    refine lv_bipush (v := nI 12) hx hb dL_turn_199 (by decide) ?_
    refine kcS X hP hS (c_L_up l hI (by decide)) v_L_57 ⟨Nat.le_of_ble_eq_true rfl, Nat.le_of_ble_eq_true rfl, rfl, rfl⟩ rfl rfl (Nat.le_of_ble_eq_true rfl) hl.1 ⟨Nat.zero_le _, Nat.zero_le _⟩ dL_turn_201 (fun r_201 G_201 H locs hR hP hS => ?_)
    obtain ⟨rfl, hG_201⟩ := hR
    rw [hG_201] at hP
    clear hG_201
    refine kcV X hP hS (lx_read l hI hN hV) oX v_L_66 ⟨Nat.le_of_ble_eq_true rfl, Nat.le_of_ble_eq_true rfl, rfl, rfl⟩ rfl rfl (Nat.le_of_ble_eq_true rfl) hl.1 ⟨Nat.zero_le _, Nat.zero_le _⟩ dL_turn_204 (fun r_204 G_204 H locs hR hP hS => ?_)
    have h_204 := hR
    exact hret _ _ _ _ _ _ (by unfold turnX; rw [if_neg q_0, if_neg q_1, if_neg q_2, if_neg q_3, if_neg q_4, if_neg q_5, if_neg q_6, if_neg q_7, if_pos q_8]; exact h_204) hP hS dL_turn_207
  by_cases q_9 : w = nI 9
  · skip
    rw [q_9]
    refine lv_tableIn (off := 194) (tgt := 208) hx hb dL_turn_14 (by decide) (by decide) rfl (by decide) ?_
    refine lv_aload_n hx hb dL_turn_208 rfl (lv_at hl 0 rfl) ?_
    refine lv_iload hx hb dL_turn_209 (lv_at hl 4 rfl) ?_
    refine lv_iload_n hx hb dL_turn_211 rfl (lv_at hl 3 rfl) ?_
    refine lv_bipush (v := nI 6) hx hb dL_turn_212 (by decide) ?_
    refine kcS X hP hS (c_L_up l hI (by decide)) v_L_57 ⟨Nat.le_of_ble_eq_true rfl, Nat.le_of_ble_eq_true rfl, rfl, rfl⟩ rfl rfl (Nat.le_of_ble_eq_true rfl) hl.1 ⟨Nat.zero_le _, Nat.zero_le _⟩ dL_turn_214 (fun r_214 G_214 H locs hR hP hS => ?_)
    obtain ⟨rfl, hG_214⟩ := hR
    rw [hG_214] at hP
    clear hG_214
    refine lv_iload_n hx hb dL_turn_217 rfl (lv_at hl 3 rfl) ?_
    refine lv_iconst (v := nI 4) hx hb dL_turn_218 (by decide) ?_
    refine lv_ishr hx hb dL_turn_219 ?_
    refine lv_sipush (v := nI 10000) hx hb dL_turn_220 (by decide) ?_
    refine kcS X hP hS (c_L_up l hI (by decide)) v_L_57 ⟨Nat.le_of_ble_eq_true rfl, Nat.le_of_ble_eq_true rfl, rfl, rfl⟩ rfl rfl (Nat.le_of_ble_eq_true rfl) hl.1 ⟨Nat.zero_le _, Nat.zero_le _⟩ dL_turn_223 (fun r_223 G_223 H locs hR hP hS => ?_)
    obtain ⟨rfl, hG_223⟩ := hR
    rw [hG_223] at hP
    clear hG_223
    refine kcV X hP hS (lx_write l hI hN hV) oX v_L_51 ⟨Nat.le_of_ble_eq_true rfl, Nat.le_of_ble_eq_true rfl, rfl, rfl⟩ rfl rfl (Nat.le_of_ble_eq_true rfl) hl.1 ⟨Nat.zero_le _, Nat.zero_le _⟩ dL_turn_226 (fun r_226 G_226 H locs hR hP hS => ?_)
    have h_226 := hR
    exact hret _ _ _ _ _ _ (by unfold turnX; rw [if_neg q_0, if_neg q_1, if_neg q_2, if_neg q_3, if_neg q_4, if_neg q_5, if_neg q_6, if_neg q_7, if_neg q_8, if_pos q_9]; exact h_226) hP hS dL_turn_229
  by_cases q_10 : w = nI 10
  · skip
    rw [q_10]
    refine lv_tableIn (off := 194) (tgt := 208) hx hb dL_turn_14 (by decide) (by decide) rfl (by decide) ?_
    refine lv_aload_n hx hb dL_turn_208 rfl (lv_at hl 0 rfl) ?_
    refine lv_iload hx hb dL_turn_209 (lv_at hl 4 rfl) ?_
    refine lv_iload_n hx hb dL_turn_211 rfl (lv_at hl 3 rfl) ?_
    refine lv_bipush (v := nI 6) hx hb dL_turn_212 (by decide) ?_
    refine kcS X hP hS (c_L_up l hI (by decide)) v_L_57 ⟨Nat.le_of_ble_eq_true rfl, Nat.le_of_ble_eq_true rfl, rfl, rfl⟩ rfl rfl (Nat.le_of_ble_eq_true rfl) hl.1 ⟨Nat.zero_le _, Nat.zero_le _⟩ dL_turn_214 (fun r_214 G_214 H locs hR hP hS => ?_)
    obtain ⟨rfl, hG_214⟩ := hR
    rw [hG_214] at hP
    clear hG_214
    refine lv_iload_n hx hb dL_turn_217 rfl (lv_at hl 3 rfl) ?_
    refine lv_iconst (v := nI 4) hx hb dL_turn_218 (by decide) ?_
    refine lv_ishr hx hb dL_turn_219 ?_
    refine lv_sipush (v := nI 10000) hx hb dL_turn_220 (by decide) ?_
    refine kcS X hP hS (c_L_up l hI (by decide)) v_L_57 ⟨Nat.le_of_ble_eq_true rfl, Nat.le_of_ble_eq_true rfl, rfl, rfl⟩ rfl rfl (Nat.le_of_ble_eq_true rfl) hl.1 ⟨Nat.zero_le _, Nat.zero_le _⟩ dL_turn_223 (fun r_223 G_223 H locs hR hP hS => ?_)
    obtain ⟨rfl, hG_223⟩ := hR
    rw [hG_223] at hP
    clear hG_223
    refine kcV X hP hS (lx_write l hI hN hV) oX v_L_51 ⟨Nat.le_of_ble_eq_true rfl, Nat.le_of_ble_eq_true rfl, rfl, rfl⟩ rfl rfl (Nat.le_of_ble_eq_true rfl) hl.1 ⟨Nat.zero_le _, Nat.zero_le _⟩ dL_turn_226 (fun r_226 G_226 H locs hR hP hS => ?_)
    have h_226 := hR
    exact hret _ _ _ _ _ _ (by unfold turnX; rw [if_neg q_0, if_neg q_1, if_neg q_2, if_neg q_3, if_neg q_4, if_neg q_5, if_neg q_6, if_neg q_7, if_neg q_8, if_neg q_9, if_pos q_10]; exact h_226) hP hS dL_turn_229
  by_cases q_11 : w = nI 11
  · skip
    rw [q_11]
    refine lv_tableIn (off := 194) (tgt := 208) hx hb dL_turn_14 (by decide) (by decide) rfl (by decide) ?_
    refine lv_aload_n hx hb dL_turn_208 rfl (lv_at hl 0 rfl) ?_
    refine lv_iload hx hb dL_turn_209 (lv_at hl 4 rfl) ?_
    refine lv_iload_n hx hb dL_turn_211 rfl (lv_at hl 3 rfl) ?_
    refine lv_bipush (v := nI 6) hx hb dL_turn_212 (by decide) ?_
    refine kcS X hP hS (c_L_up l hI (by decide)) v_L_57 ⟨Nat.le_of_ble_eq_true rfl, Nat.le_of_ble_eq_true rfl, rfl, rfl⟩ rfl rfl (Nat.le_of_ble_eq_true rfl) hl.1 ⟨Nat.zero_le _, Nat.zero_le _⟩ dL_turn_214 (fun r_214 G_214 H locs hR hP hS => ?_)
    obtain ⟨rfl, hG_214⟩ := hR
    rw [hG_214] at hP
    clear hG_214
    refine lv_iload_n hx hb dL_turn_217 rfl (lv_at hl 3 rfl) ?_
    refine lv_iconst (v := nI 4) hx hb dL_turn_218 (by decide) ?_
    refine lv_ishr hx hb dL_turn_219 ?_
    refine lv_sipush (v := nI 10000) hx hb dL_turn_220 (by decide) ?_
    refine kcS X hP hS (c_L_up l hI (by decide)) v_L_57 ⟨Nat.le_of_ble_eq_true rfl, Nat.le_of_ble_eq_true rfl, rfl, rfl⟩ rfl rfl (Nat.le_of_ble_eq_true rfl) hl.1 ⟨Nat.zero_le _, Nat.zero_le _⟩ dL_turn_223 (fun r_223 G_223 H locs hR hP hS => ?_)
    obtain ⟨rfl, hG_223⟩ := hR
    rw [hG_223] at hP
    clear hG_223
    refine kcV X hP hS (lx_write l hI hN hV) oX v_L_51 ⟨Nat.le_of_ble_eq_true rfl, Nat.le_of_ble_eq_true rfl, rfl, rfl⟩ rfl rfl (Nat.le_of_ble_eq_true rfl) hl.1 ⟨Nat.zero_le _, Nat.zero_le _⟩ dL_turn_226 (fun r_226 G_226 H locs hR hP hS => ?_)
    have h_226 := hR
    exact hret _ _ _ _ _ _ (by unfold turnX; rw [if_neg q_0, if_neg q_1, if_neg q_2, if_neg q_3, if_neg q_4, if_neg q_5, if_neg q_6, if_neg q_7, if_neg q_8, if_neg q_9, if_neg q_10, if_pos q_11]; exact h_226) hP hS dL_turn_229
  by_cases q_12 : w = nI 12
  · skip
    rw [q_12]
    refine lv_tableIn (off := 216) (tgt := 230) hx hb dL_turn_14 (by decide) (by decide) rfl (by decide) ?_
    refine lv_aload_n hx hb dL_turn_230 rfl (lv_at hl 0 rfl) ?_
    refine lv_iload hx hb dL_turn_231 (lv_at hl 4 rfl) ?_
    refine kcV X hP hS (lx_commit l hI hN hV) oX v_L_54 ⟨Nat.le_of_ble_eq_true rfl, Nat.le_of_ble_eq_true rfl, rfl, rfl⟩ rfl rfl (Nat.le_of_ble_eq_true rfl) hl.1 ⟨Nat.zero_le _, Nat.zero_le _⟩ dL_turn_233 (fun r_233 G_233 H locs hR hP hS => ?_)
    have h_233 := hR
    exact hret _ _ _ _ _ _ (by unfold turnX; rw [if_neg q_0, if_neg q_1, if_neg q_2, if_neg q_3, if_neg q_4, if_neg q_5, if_neg q_6, if_neg q_7, if_neg q_8, if_neg q_9, if_neg q_10, if_neg q_11, if_pos q_12]; exact h_233) hP hS dL_turn_236
  by_cases q_13 : w = nI 13
  · skip
    rw [q_13]
    refine lv_tableIn (off := 216) (tgt := 230) hx hb dL_turn_14 (by decide) (by decide) rfl (by decide) ?_
    refine lv_aload_n hx hb dL_turn_230 rfl (lv_at hl 0 rfl) ?_
    refine lv_iload hx hb dL_turn_231 (lv_at hl 4 rfl) ?_
    refine kcV X hP hS (lx_commit l hI hN hV) oX v_L_54 ⟨Nat.le_of_ble_eq_true rfl, Nat.le_of_ble_eq_true rfl, rfl, rfl⟩ rfl rfl (Nat.le_of_ble_eq_true rfl) hl.1 ⟨Nat.zero_le _, Nat.zero_le _⟩ dL_turn_233 (fun r_233 G_233 H locs hR hP hS => ?_)
    have h_233 := hR
    exact hret _ _ _ _ _ _ (by unfold turnX; rw [if_neg q_0, if_neg q_1, if_neg q_2, if_neg q_3, if_neg q_4, if_neg q_5, if_neg q_6, if_neg q_7, if_neg q_8, if_neg q_9, if_neg q_10, if_neg q_11, if_neg q_12, if_pos q_13]; exact h_233) hP hS dL_turn_236
  by_cases q_14 : w = nI 14
  · skip
    rw [q_14]
    refine lv_tableIn (off := 216) (tgt := 230) hx hb dL_turn_14 (by decide) (by decide) rfl (by decide) ?_
    refine lv_aload_n hx hb dL_turn_230 rfl (lv_at hl 0 rfl) ?_
    refine lv_iload hx hb dL_turn_231 (lv_at hl 4 rfl) ?_
    refine kcV X hP hS (lx_commit l hI hN hV) oX v_L_54 ⟨Nat.le_of_ble_eq_true rfl, Nat.le_of_ble_eq_true rfl, rfl, rfl⟩ rfl rfl (Nat.le_of_ble_eq_true rfl) hl.1 ⟨Nat.zero_le _, Nat.zero_le _⟩ dL_turn_233 (fun r_233 G_233 H locs hR hP hS => ?_)
    have h_233 := hR
    exact hret _ _ _ _ _ _ (by unfold turnX; rw [if_neg q_0, if_neg q_1, if_neg q_2, if_neg q_3, if_neg q_4, if_neg q_5, if_neg q_6, if_neg q_7, if_neg q_8, if_neg q_9, if_neg q_10, if_neg q_11, if_neg q_12, if_neg q_13, if_pos q_14]; exact h_233) hP hS dL_turn_236
  refine lv_tableOut (tgt := 237) hx hb dL_turn_14 (tb_out 14 (by decide) (fun i hi => by
      rcases (show i = 0 ∨ i = 1 ∨ i = 2 ∨ i = 3 ∨ i = 4 ∨ i = 5 ∨ i = 6 ∨ i = 7 ∨ i = 8 ∨ i = 9 ∨ i = 10 ∨ i = 11 ∨ i = 12 ∨ i = 13 ∨ i = 14 by omega) with rfl | rfl | rfl | rfl | rfl | rfl | rfl | rfl | rfl | rfl | rfl | rfl | rfl | rfl | rfl <;> assumption)) (by decide) ?_
  refine lv_aload_n hx hb dL_turn_237 rfl (lv_at hl 0 rfl) ?_
  refine lv_iload_n hx hb dL_turn_238 rfl (lv_at hl 2 rfl) ?_
  refine lv_iload_n hx hb dL_turn_239 rfl (lv_at hl 3 rfl) ?_
  refine kcS X hP hS (c_L_any l hI hN hV) v_L_69 ⟨Nat.le_of_ble_eq_true rfl, Nat.le_of_ble_eq_true rfl, rfl, rfl⟩ rfl rfl (Nat.le_of_ble_eq_true rfl) hl.1 ⟨Nat.zero_le _, Nat.zero_le _⟩ dL_turn_240 (fun r_240 G_240 H locs hR hP hS => ?_)
  have h_240 := hR
  exact hret _ _ _ _ _ _ (by unfold turnX; rw [if_neg q_0, if_neg q_1, if_neg q_2, if_neg q_3, if_neg q_4, if_neg q_5, if_neg q_6, if_neg q_7, if_neg q_8, if_neg q_9, if_neg q_10, if_neg q_11, if_neg q_12, if_neg q_13, if_neg q_14]; exact h_240) hP hS dL_turn_243
