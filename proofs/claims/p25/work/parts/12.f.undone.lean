theorem rotL_2 {L : Nat} (h : L ≤ 4) : rotL (rotL L) = rotL L := by
  have := rotL_lt h
  show (if rotL L = 4 then 3 else rotL L) = rotL L
  rw [if_neg (by omega)]
set_option maxHeartbeats 4000000 in
set_option maxRecDepth 100000 in
theorem c_L_isUndone (l : Launch) {D : va_G} {τ : Nat → ClassId} {ad : Nat → Nat} (hI : kInj ad) {G : Nat → Nat → Int32} {N N' : Nat → Int32} {L : Nat} {Hs : Nat → Nat → Int32} {w a b g : Int32} {put : Nat} (hN : RLN G N' (rotL L + 1) (psh L Hs N)) (hL4 : L ≤ 4) (hV : INV N (nZ (N 2)) (nZ (N 8)) put) (ht : (turnX N w a b).2 = (g, some N')) : kM l yL_isUndone cL_isUndone 10 (some .boolean) { frames := 9, cells := 0, slots := 0, locals := 208 } D τ ad [.ref (ad 7), .int w, .int a, .int b, .int g, .long (viewF N)] G (fun v G' => v = 1 ∧ G' 0 = G 0 ∧ ∃ Hs', RLN G' N' (rotL L + 1) Hs') := by
  refine kMetZ (own := RL) (by decide) rfl (Nat.le_of_ble_eq_true rfl) ?_
  intro p9 e9 s9 m9 args9 below9 meth9 c9 Q9 X hx hb hP hS hret ls hl
  have hl : lv_has ls 10 [(0, .ref (ad 7)), (1, .int w), (2, .int a), (3, .int b), (4, .int g), (5, .long (viewF N))] := hl
  have hrl := rotL_lt hL4
  refine lv_aload_n hx hb dL_isUndone_0 rfl (lv_at hl 0 rfl) ?_
  refine kcSl X hP hS (c_L_view l hI hN) v_L_73 ⟨Nat.le_of_ble_eq_true rfl, Nat.le_of_ble_eq_true rfl, rfl, rfl⟩ rfl rfl (Nat.le_of_ble_eq_true rfl) hl.1 ⟨Nat.zero_le _, Nat.zero_le _⟩ dL_isUndone_1 (fun r_1 G_1 H locs hR hP hS => ?_)
  obtain ⟨rfl, hG_1⟩ := hR
  rw [hG_1] at hP
  clear hG_1
  refine klstW hx hb dL_isUndone_4 hl (by decide) kq_0i1i2i3i4i5w_7w (fun ls hl => ?_)
  refine lv_aload_n hx hb dL_isUndone_6 rfl (lv_at hl 0 rfl) ?_
  refine lv_bipush (v := nI 15) hx hb dL_isUndone_7 (by decide) ?_
  refine kcV X hP hS (ln_count l hI hN (by decide)) oX v_L_13 ⟨Nat.le_of_ble_eq_true rfl, Nat.le_of_ble_eq_true rfl, rfl, rfl⟩ rfl rfl (Nat.le_of_ble_eq_true rfl) hl.1 ⟨Nat.zero_le _, Nat.zero_le _⟩ dL_isUndone_9 (fun r_9 G_9 H locs hR hP hS => ?_)
  obtain ⟨rfl, hG_9⟩ := hR
  rw [hG_9] at hP
  clear hG_9
  rw [aCt_15]
  refine kistW hx hb dL_isUndone_12 hl (by decide) kq_0i1i2i3i4i5w7w_9i (fun ls hl => ?_)
  refine lv_aload_n hx hb dL_isUndone_14 rfl (lv_at hl 0 rfl) ?_
  refine kcV X hP hS (ln_undo l hI hN (by omega)) oX v_L_77 ⟨Nat.le_of_ble_eq_true rfl, Nat.le_of_ble_eq_true rfl, rfl, rfl⟩ rfl rfl (Nat.le_of_ble_eq_true rfl) hl.1 ⟨Nat.zero_le _, Nat.zero_le _⟩ dL_isUndone_15 (fun r_15 G_15 H locs hR hP hS => ?_)
  obtain ⟨rfl, hU, hG15⟩ := hR
  have hU : RLN G_15 N (rotL L) (psh L Hs N) := by
    have e : psh L Hs N (rotL L + 1 - 1) = N := by unfold psh; rw [if_pos (by omega)]
    rw [e] at hU
    exact hU
  refine lv_iload hx hb dL_isUndone_18 (lv_at hl 7 rfl) ?_
  refine lv_iconst (v := nI 1) hx hb dL_isUndone_20 (by decide) ?_
  first
    | refine ksub hx hb dL_isUndone_21 (by with_reducible rfl) (by with_reducible rfl) (by omega) ?_
    | refine lv_isub hx hb dL_isUndone_21 ?_
  first
    | refine kic_ne (tgt := 72) hx hb dL_isUndone_22 (by decide) (by with_reducible rfl) (by with_reducible rfl) (by omega) (by omega) (fun c_22 => ?_) (fun c_22 => ?_)
    | refine lv_icmp_ne (tgt := 72) hx hb dL_isUndone_22 (by decide) (fun c_22 => ?_) (fun c_22 => ?_)
  · skip
    exact absurd rfl c_22
  · skip
    refine lv_aload_n hx hb dL_isUndone_25 rfl (lv_at hl 0 rfl) ?_
    refine kcSl X hP hS (c_L_view l hI hU) v_L_73 ⟨Nat.le_of_ble_eq_true rfl, Nat.le_of_ble_eq_true rfl, rfl, rfl⟩ rfl rfl (Nat.le_of_ble_eq_true rfl) hl.1 ⟨Nat.zero_le _, Nat.zero_le _⟩ dL_isUndone_26 (fun r_26 G_26 H locs hR hP hS => ?_)
    obtain ⟨rfl, hG_26⟩ := hR
    rw [hG_26] at hP
    clear hG_26
    refine lv_lload hx hb dL_isUndone_29 (lv_at hl 5 rfl) ?_
    refine W.lcmp hx hb dL_isUndone_31 ?_
    refine lv_if_ne (tgt := 72) hx hb dL_isUndone_32 (by decide) (fun c_32 => ?_) (fun c_32 => ?_)
    · skip
      exact absurd ((lg_cmp_eq _ _).mpr rfl) c_32
    · skip
      refine lv_aload_n hx hb dL_isUndone_35 rfl (lv_at hl 0 rfl) ?_
      refine lv_iload_n hx hb dL_isUndone_36 rfl (lv_at hl 1 rfl) ?_
      refine lv_iload_n hx hb dL_isUndone_37 rfl (lv_at hl 2 rfl) ?_
      refine lv_iload_n hx hb dL_isUndone_38 rfl (lv_at hl 3 rfl) ?_
      refine kcS X hP hS (c_L_turn l hI hU hV) v_L_81 ⟨Nat.le_of_ble_eq_true rfl, Nat.le_of_ble_eq_true rfl, rfl, rfl⟩ rfl rfl (Nat.le_of_ble_eq_true rfl) hl.1 ⟨Nat.zero_le _, Nat.zero_le _⟩ dL_isUndone_39 (fun r_39 G_39 H locs hR hP hS => ?_)
      obtain ⟨⟨rfl, hG39, -, hW⟩, -⟩ := hR
      have hW := hW N' (by rw [ht])
      rw [rotL_2 hL4] at hW
      rw [ht]
      refine lv_iload hx hb dL_isUndone_42 (lv_at hl 4 rfl) ?_
      refine lv_icmp_ne (tgt := 72) hx hb dL_isUndone_44 (by decide) (fun c_44 => ?_) (fun c_44 => ?_)
      · skip
        exact absurd rfl c_44
      · skip
        refine lv_aload_n hx hb dL_isUndone_47 rfl (lv_at hl 0 rfl) ?_
        refine kcSl X hP hS (c_L_view l hI hW) v_L_73 ⟨Nat.le_of_ble_eq_true rfl, Nat.le_of_ble_eq_true rfl, rfl, rfl⟩ rfl rfl (Nat.le_of_ble_eq_true rfl) hl.1 ⟨Nat.zero_le _, Nat.zero_le _⟩ dL_isUndone_48 (fun r_48 G_48 H locs hR hP hS => ?_)
        obtain ⟨rfl, hG_48⟩ := hR
        rw [hG_48] at hP
        clear hG_48
        refine lv_lload hx hb dL_isUndone_51 (lv_at hl 6 rfl) ?_
        refine W.lcmp hx hb dL_isUndone_53 ?_
        refine lv_if_ne (tgt := 72) hx hb dL_isUndone_54 (by decide) (fun c_54 => ?_) (fun c_54 => ?_)
        · skip
          exact absurd ((lg_cmp_eq _ _).mpr rfl) c_54
        · skip
          refine lv_aload_n hx hb dL_isUndone_57 rfl (lv_at hl 0 rfl) ?_
          refine lv_bipush (v := nI 15) hx hb dL_isUndone_58 (by decide) ?_
          refine kcV X hP hS (ln_count l hI hW (by decide)) oX v_L_13 ⟨Nat.le_of_ble_eq_true rfl, Nat.le_of_ble_eq_true rfl, rfl, rfl⟩ rfl rfl (Nat.le_of_ble_eq_true rfl) hl.1 ⟨Nat.zero_le _, Nat.zero_le _⟩ dL_isUndone_60 (fun r_60 G_60 H locs hR hP hS => ?_)
          obtain ⟨rfl, hG_60⟩ := hR
          rw [hG_60] at hP
          clear hG_60
          rw [aCt_15]
          refine lv_iload hx hb dL_isUndone_63 (lv_at hl 7 rfl) ?_
          first
            | refine kic_ne (tgt := 72) hx hb dL_isUndone_65 (by decide) (by with_reducible rfl) (by with_reducible rfl) (by omega) (by omega) (fun c_65 => ?_) (fun c_65 => ?_)
            | refine lv_icmp_ne (tgt := 72) hx hb dL_isUndone_65 (by decide) (fun c_65 => ?_) (fun c_65 => ?_)
          · skip
            exact absurd rfl c_65
          · skip
            refine lv_iconst (v := nI 1) hx hb dL_isUndone_68 (by decide) ?_
            refine lv_goto (tgt := 73) hx hb dL_isUndone_69 (by decide) ?_
            exact hret _ _ _ _ _ _ (by decide) (⟨rfl, hG39.trans hG15, _, hW⟩) hP hS dL_isUndone_73
