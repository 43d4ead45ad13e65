/-! The law's own small methods. -/
theorem itF_s {g : Nat → Int64 → Int64} {n : Nat} {v w x : Int64} (h : v = itF g n w) (hx : x = g n v) : x = itF g (n + 1) w := by
  rw [itF, ← h]; exact hx
theorem itF_e {g : Nat → Int64 → Int64} {n m : Nat} {v w : Int64} (h : v = itF g n w) (e : n = m) : v = itF g m w := by rw [← e]; exact h
def anyX (N : Nat → Int32) (a b : Int32) : Nat × Int32 × Option (Nat → Int32) :=
  if b &&& nI 7 = nI 0 then (nZ a, opnS N a) else if b &&& nI 7 = nI 1 then (nZ b, payS N a b) else if b &&& nI 7 = nI 2 then (0, widS N a b) else if b &&& nI 7 = nI 3 then (0, cloS N a) else if b &&& nI 7 = nI 4 then (0, rentS N a) else if b &&& nI 7 = nI 5 then (0, tikS N a) else if b &&& nI 7 = nI 6 then (0, wriS N a b a) else (0, comS N a)
def turnX (N : Nat → Int32) (w a b : Int32) : Nat × Int32 × Option (Nat → Int32) :=
  if w = nI 0 then (nZ (upF b (if a &&& nI 3 = 0 then nI 10000 else nI 60)), opnS N (upF b (if a &&& nI 3 = 0 then nI 10000 else nI 60)))
  else if w = nI 1 then (nZ (upF b (if a &&& nI 3 = 0 then nI 10000 else nI 60)), opnS N (upF b (if a &&& nI 3 = 0 then nI 10000 else nI 60)))
  else if w = nI 2 then (nZ (nI 1 + upF b (nI 200)), payS N (upF a (N 2 + nI 1)) (nI 1 + upF b (nI 200)))
  else if w = nI 3 then (0, widS N (upF a (N 2 + nI 1)) (nI 1 + upF b (nI 5)))
  else if w = nI 4 then (0, cloS N (upF a (N 2 + nI 1)))
  else if w = nI 5 then (if a &&& nI 1 = 0 then (0, rentS N (upF b (nI 100))) else (0, skewS N (if b &&& nI 1 = 0 then nI 1 else nI 0)))
  else if w = nI 6 then (0, tikS N (nI 1 + upF a (nI 3)))
  else if w = nI 7 then (0, reaS N (upF a (N 2 + nI 1)) (upF b (nI 12)))
  else if w = nI 8 then (0, reaS N (upF a (N 2 + nI 1)) (upF b (nI 12)))
  else if w = nI 9 then (0, wriS N (upF a (N 2 + nI 1)) (upF b (nI 6)) (upF (b >>> (nI 4 &&& 31)) (nI 10000)))
  else if w = nI 10 then (0, wriS N (upF a (N 2 + nI 1)) (upF b (nI 6)) (upF (b >>> (nI 4 &&& 31)) (nI 10000)))
  else if w = nI 11 then (0, wriS N (upF a (N 2 + nI 1)) (upF b (nI 6)) (upF (b >>> (nI 4 &&& 31)) (nI 10000)))
  else if w = nI 12 then (0, comS N (upF a (N 2 + nI 1)))
  else if w = nI 13 then (0, comS N (upF a (N 2 + nI 1)))
  else if w = nI 14 then (0, comS N (upF a (N 2 + nI 1)))
  else anyX N a b
set_option maxHeartbeats 4000000 in
set_option maxRecDepth 100000 in
theorem c_L_up (l : Launch) {D : va_G} {τ : Nat → ClassId} {ad : Nat → Nat} (hI : kInj ad) {G : Nat → Nat → Int32} {x y : Int32} (hy : ¬ y = 0) : kM l yL_up cL_up 2 (some .int) { frames := 0, cells := 0, slots := 0, locals := 0 } D τ ad [.int x, .int y] G (fun v G' => v = upF x y ∧ G' = G) := by
  refine kMet (own := RL) (by decide) rfl (Nat.le_of_ble_eq_true rfl) ?_
  intro p9 e9 s9 m9 args9 below9 meth9 c9 Q9 X hx hb hP hS hret ls hl
  have hl : lv_has ls 2 [(0, .int x), (1, .int y)] := hl
  refine lv_iload_n hx hb dL_up_0 rfl (lv_at hl 0 rfl) ?_
  refine lv_ldc (own := RL) (index := 8) (v := 2147483647) hx hb X.2.2.2.1 (X.2.2.2.2.1 _ (kWs_of 371 (by decide +kernel) rfl)) dL_up_1 ?_
  refine lv_iand hx hb dL_up_3 ?_
  refine lv_iload_n hx hb dL_up_4 rfl (lv_at hl 1 rfl) ?_
  refine lv_irem hx hb dL_up_5 hy ?_
  exact hret _ _ _ _ _ _ (⟨rfl, rfl⟩) hP hS dL_up_6

set_option maxHeartbeats 4000000 in
set_option maxRecDepth 100000 in
theorem c_L_seen (l : Launch) {D : va_G} {τ : Nat → ClassId} {ad : Nat → Nat} (hI : kInj ad) {G : Nat → Nat → Int32} {x : Int32} {N : Nat → Int32} {L : Nat} {Hs : Nat → Nat → Int32} (hN : RLN G N L Hs) : kM l yL_seen cL_seen 2 (some .int) { frames := 5, cells := 0, slots := 0, locals := 116 } D τ ad [.ref (ad 7), .int x] G (fun v G' => v = seenF N x ∧ G' = G) := by
  refine kMet (own := RL) (by decide) rfl (Nat.le_of_ble_eq_true rfl) ?_
  intro p9 e9 s9 m9 args9 below9 meth9 c9 Q9 X hx hb hP hS hret ls hl
  have hl : lv_has ls 2 [(0, .ref (ad 7)), (1, .int x)] := hl
  refine lv_aload_n hx hb dL_seen_0 rfl (lv_at hl 0 rfl) ?_
  refine lv_iload_n hx hb dL_seen_1 rfl (lv_at hl 1 rfl) ?_
  refine lv_iconst (v := nI 0) hx hb dL_seen_2 (by decide) ?_
  refine kcV X hP hS (ln_reader l hI hN) oX v_L_27 ⟨Nat.le_of_ble_eq_true rfl, Nat.le_of_ble_eq_true rfl, rfl, rfl⟩ rfl rfl (Nat.le_of_ble_eq_true rfl) hl.1 ⟨Nat.zero_le _, Nat.zero_le _⟩ dL_seen_3 (fun r_3 G_3 H locs hR hP hS => ?_)
  obtain ⟨rfl, hG_3⟩ := hR
  rw [hG_3] at hP
  clear hG_3
  first
    | refine kif_ne (tgt := 19) hx hb dL_seen_6 (by decide) (fun c_6 => ?_) (fun c_6 => ?_)
    | refine lv_if_ne (tgt := 19) hx hb dL_seen_6 (by decide) (fun c_6 => ?_) (fun c_6 => ?_)
  · skip
    refine lv_iconst (v := (-1)) hx hb dL_seen_19 (by decide) ?_
    exact hret _ _ _ _ _ _ (⟨(if_neg c_6).symm, rfl⟩) hP hS dL_seen_20
  · skip
    refine lv_aload_n hx hb dL_seen_9 rfl (lv_at hl 0 rfl) ?_
    refine lv_iload_n hx hb dL_seen_10 rfl (lv_at hl 1 rfl) ?_
    refine lv_bipush (v := nI 9) hx hb dL_seen_11 (by decide) ?_
    refine kcV X hP hS (ln_reader l hI hN) oX v_L_27 ⟨Nat.le_of_ble_eq_true rfl, Nat.le_of_ble_eq_true rfl, rfl, rfl⟩ rfl rfl (Nat.le_of_ble_eq_true rfl) hl.1 ⟨Nat.zero_le _, Nat.zero_le _⟩ dL_seen_13 (fun r_13 G_13 H locs hR hP hS => ?_)
    obtain ⟨rfl, hG_13⟩ := hR
    rw [hG_13] at hP
    clear hG_13
    refine lv_goto (tgt := 20) hx hb dL_seen_16 (by decide) ?_
    exact hret _ _ _ _ _ _ (⟨(if_pos c_6).symm, rfl⟩) hP hS dL_seen_20

set_option maxHeartbeats 4000000 in
set_option maxRecDepth 100000 in
theorem c_L_coins (l : Launch) {D : va_G} {τ : Nat → ClassId} {ad : Nat → Nat} (hI : kInj ad) {G : Nat → Nat → Int32} {z : Int64} {N : Nat → Int32} {L : Nat} {Hs : Nat → Nat → Int32} (hN : RLN G N L Hs) : kMl l yL_coins cL_coins 6 { frames := 5, cells := 0, slots := 0, locals := 116 } D τ ad [.ref (ad 7), .long z] G (fun v G' => v = coinF N z ∧ G' = G) := by
  refine kMetL (own := RL) (by decide) rfl (Nat.le_of_ble_eq_true rfl) ?_
  intro p9 e9 s9 m9 args9 below9 meth9 c9 Q9 X hx hb hP hS hret ls hl
  have hl : lv_has ls 6 [(0, .ref (ad 7)), (1, .long z)] := hl
  obtain ⟨n, k, hn2, hn4, hk2, hk4, hnz, hkz, hL4⟩ := rln_n hN
  refine lv_lload_n hx hb dL_coins_0 rfl (lv_at hl 1 rfl) ?_
  refine lv_aload_n hx hb dL_coins_1 rfl (lv_at hl 0 rfl) ?_
  refine lv_bipush (v := nI 10) hx hb dL_coins_2 (by decide) ?_
  refine kcV X hP hS (ln_count l hI hN (by decide)) oX v_L_13 ⟨Nat.le_of_ble_eq_true rfl, Nat.le_of_ble_eq_true rfl, rfl, rfl⟩ rfl rfl (Nat.le_of_ble_eq_true rfl) hl.1 ⟨Nat.zero_le _, Nat.zero_le _⟩ dL_coins_4 (fun r_4 G_4 H locs hR hP hS => ?_)
  obtain ⟨rfl, hG_4⟩ := hR
  rw [hG_4] at hP
  clear hG_4
  refine lv_i2l hx hb dL_coins_7 rfl ?_
  refine lv_lsub hx hb dL_coins_8 ?_
  refine klst hx hb dL_coins_9 rfl hl (by decide) kq_0i1w_3w (fun ls hl => ?_)
  refine lv_iconst (v := nI 0) hx hb dL_coins_10 (by decide) ?_
  refine kistW hx hb dL_coins_11 hl (by decide) kq_0i1w3w_5i (fun ls hl => ?_)
  have lp_13 : ∀ (d : Nat) (r : Nat) (v1 : Int64) (H : Heap) (locs : List Loc) (ls : Array Slot), (n - r) < d → (r ≤ n) → (v1 = itF (fun r v => v - (aRd N (nI r) (nI 2)).toInt64) r (z - (aCt N 0 (nI 10)).toInt64)) → va_P D vwCl (kW τ ad G) H → va_S (kAd ad) s9.heap H locs → lv_has ls 6 [(0, .ref (ad 7)), (1, .long z), (3, .long v1), (5, .int (nI r))] → W p9 l e9 { frames := 5, cells := 0, slots := 0, locals := 116 } s9 m9 args9 below9 meth9 c9 H locs 0 0 Q9 (F0 m9 13 ls []) := by
    intro d
    induction d with
    | zero => exact fun _ _ _ _ _ hd => absurd hd (Nat.not_lt_zero _)
    | succ d ih_13 =>
      intro r v1 H locs ls hd iv_0 iv_1 hP hS hl
      refine lv_iload hx hb dL_coins_13 (lv_at hl 3 rfl) ?_
      refine lv_aload_n hx hb dL_coins_15 rfl (lv_at hl 0 rfl) ?_
      refine lv_iconst (v := nI 2) hx hb dL_coins_16 (by decide) ?_
      refine kcV X hP hS (ln_count l hI hN (by decide)) oX v_L_13 ⟨Nat.le_of_ble_eq_true rfl, Nat.le_of_ble_eq_true rfl, rfl, rfl⟩ rfl rfl (Nat.le_of_ble_eq_true rfl) hl.1 ⟨Nat.zero_le _, Nat.zero_le _⟩ dL_coins_17 (fun r_17 G_17 H locs hR hP hS => ?_)
      obtain ⟨rfl, hG_17⟩ := hR
      rw [hG_17] at hP
      clear hG_17
      rw [aCt_2, hn2]
      first
        | refine kic_ge (tgt := 40) hx hb dL_coins_20 (by decide) (by with_reducible rfl) (by with_reducible rfl) (by omega) (by omega) (fun c_20 => ?_) (fun c_20 => ?_)
        | refine lv_icmp_ge (tgt := 40) hx hb dL_coins_20 (by decide) (fun c_20 => ?_) (fun c_20 => ?_)
      · skip
        refine lv_lload_n hx hb dL_coins_40 rfl (lv_at hl 2 rfl) ?_
        exact hret _ _ _ _ _ _ (⟨by unfold coinF; rw [hnz, show n = r by omega]; exact iv_1, rfl⟩) hP hS dL_coins_41
      · skip
        refine lv_lload_n hx hb dL_coins_23 rfl (lv_at hl 2 rfl) ?_
        refine lv_aload_n hx hb dL_coins_24 rfl (lv_at hl 0 rfl) ?_
        refine lv_iload hx hb dL_coins_25 (lv_at hl 3 rfl) ?_
        refine lv_iconst (v := nI 2) hx hb dL_coins_27 (by decide) ?_
        refine kcV X hP hS (ln_reader l hI hN) oX v_L_27 ⟨Nat.le_of_ble_eq_true rfl, Nat.le_of_ble_eq_true rfl, rfl, rfl⟩ rfl rfl (Nat.le_of_ble_eq_true rfl) hl.1 ⟨Nat.zero_le _, Nat.zero_le _⟩ dL_coins_28 (fun r_28 G_28 H locs hR hP hS => ?_)
        obtain ⟨rfl, hG_28⟩ := hR
        rw [hG_28] at hP
        clear hG_28
        refine lv_i2l hx hb dL_coins_31 rfl ?_
        refine lv_lsub hx hb dL_coins_32 ?_
        refine klst hx hb dL_coins_33 rfl hl (by decide) kq_0i1w3w5i_3w (fun ls hl => ?_)
        refine kinc (q := 3) hx hb dL_coins_34 hl rfl (by decide) kq_0i1w3w5i_5i (fun ls hl => ?_)
        refine lv_goto (tgt := 13) hx hb dL_coins_37 (by decide) ?_
        exact ih_13 _ _ _ _ _ (by omega) (by omega) (itF_s iv_1 rfl) hP hS (lv_sub hl [0,1,2,3] rfl)
  exact lp_13 _ 0 (z - (aCt N L (nI 10)).toInt64) _ _ _ (Nat.lt_succ_self _) (Nat.zero_le _) (by rw [aCt_L (L := L) (L' := 0) (by decide)]; rfl) hP hS (lv_sub hl [0,1,2,3] rfl)

set_option maxHeartbeats 4000000 in
set_option maxRecDepth 100000 in
theorem c_L_putBy (l : Launch) {D : va_G} {τ : Nat → ClassId} {ad : Nat → Nat} (hI : kInj ad) {G : Nat → Nat → Int32} {w a b g : Int32} : kMl l yL_putBy cL_putBy 4 { frames := 1, cells := 0, slots := 0, locals := 21 } D τ ad [.int w, .int a, .int b, .int g] G (fun v G' => v = putF w a b ∧ G' = G) := by
  refine kMetL (own := RL) (by decide) rfl (Nat.le_of_ble_eq_true rfl) ?_
  intro p9 e9 s9 m9 args9 below9 meth9 c9 Q9 X hx hb hP hS hret ls hl
  have hl : lv_has ls 4 [(0, .int w), (1, .int a), (2, .int b), (3, .int g)] := hl
  refine lv_iload_n hx hb dL_putBy_0 rfl (lv_at hl 0 rfl) ?_
  refine lv_iconst (v := nI 2) hx hb dL_putBy_1 (by decide) ?_
  first
    | refine kic_ge (tgt := 25) hx hb dL_putBy_2 (by decide) (by with_reducible rfl) (by with_reducible rfl) (by omega) (by omega) (fun c_2 => ?_) (fun c_2 => ?_)
    | refine lv_icmp_ge (tgt := 25) hx hb dL_putBy_2 (by decide) (fun c_2 => ?_) (fun c_2 => ?_)
  · skip
    refine lv_iload_n hx hb dL_putBy_25 rfl (lv_at hl 0 rfl) ?_
    refine lv_iconst (v := nI 2) hx hb dL_putBy_26 (by decide) ?_
    first
      | refine kic_ne (tgt := 41) hx hb dL_putBy_27 (by decide) (by with_reducible rfl) (by with_reducible rfl) (by omega) (by omega) (fun c_27 => ?_) (fun c_27 => ?_)
      | refine lv_icmp_ne (tgt := 41) hx hb dL_putBy_27 (by decide) (fun c_27 => ?_) (fun c_27 => ?_)
    · skip
      refine lv_iload_n hx hb dL_putBy_41 rfl (lv_at hl 0 rfl) ?_
      refine lv_bipush (v := nI 15) hx hb dL_putBy_42 (by decide) ?_
      first
        | refine kic_ne (tgt := 55) hx hb dL_putBy_44 (by decide) (by with_reducible rfl) (by with_reducible rfl) (by omega) (by omega) (fun c_44 => ?_) (fun c_44 => ?_)
        | refine lv_icmp_ne (tgt := 55) hx hb dL_putBy_44 (by decide) (fun c_44 => ?_) (fun c_44 => ?_)
      · skip
        refine lv_lconst (v := lN 0) hx hb dL_putBy_55 (by decide) ?_
        refine lv_goto (tgt := 73) hx hb dL_putBy_56 (by decide) ?_
        exact hret _ _ _ _ _ _ (⟨by
            unfold putF
            rw [if_neg (Classical.not_not.mpr c_2), if_neg c_27, if_neg c_44], rfl⟩) hP hS dL_putBy_73
      · skip
        refine lv_iload_n hx hb dL_putBy_47 rfl (lv_at hl 2 rfl) ?_
        refine lv_bipush (v := nI 7) hx hb dL_putBy_48 (by decide) ?_
        refine lv_iand hx hb dL_putBy_50 ?_
        refine lv_iconst (v := nI 1) hx hb dL_putBy_51 (by decide) ?_
        first
          | refine kic_le (tgt := 59) hx hb dL_putBy_52 (by decide) (by with_reducible rfl) (by with_reducible rfl) (by omega) (by omega) (fun c_52 => ?_) (fun c_52 => ?_)
          | refine lv_icmp_le (tgt := 59) hx hb dL_putBy_52 (by decide) (fun c_52 => ?_) (fun c_52 => ?_)
        · skip
          refine lv_iload_n hx hb dL_putBy_59 rfl (lv_at hl 2 rfl) ?_
          refine lv_bipush (v := nI 7) hx hb dL_putBy_60 (by decide) ?_
          refine lv_iand hx hb dL_putBy_62 ?_
          first
            | refine kif_ne (tgt := 71) hx hb dL_putBy_63 (by decide) (fun c_63 => ?_) (fun c_63 => ?_)
            | refine lv_if_ne (tgt := 71) hx hb dL_putBy_63 (by decide) (fun c_63 => ?_) (fun c_63 => ?_)
          · skip
            refine lv_iload_n hx hb dL_putBy_71 rfl (lv_at hl 2 rfl) ?_
            refine lv_i2l hx hb dL_putBy_72 rfl ?_
            exact hret _ _ _ _ _ _ (⟨by
                unfold putF
                rw [if_neg (Classical.not_not.mpr c_2), if_neg c_27, if_pos c_44, if_pos c_52, if_neg c_63], rfl⟩) hP hS dL_putBy_73
          · skip
            refine lv_iload_n hx hb dL_putBy_66 rfl (lv_at hl 1 rfl) ?_
            refine lv_i2l hx hb dL_putBy_67 rfl ?_
            refine lv_goto (tgt := 73) hx hb dL_putBy_68 (by decide) ?_
            exact hret _ _ _ _ _ _ (⟨by
                unfold putF
                rw [if_neg (Classical.not_not.mpr c_2), if_neg c_27, if_pos c_44, if_pos c_52, if_pos c_63], rfl⟩) hP hS dL_putBy_73
        · skip
          refine lv_lconst (v := lN 0) hx hb dL_putBy_55 (by decide) ?_
          refine lv_goto (tgt := 73) hx hb dL_putBy_56 (by decide) ?_
          exact hret _ _ _ _ _ _ (⟨by
              unfold putF
              rw [if_neg (Classical.not_not.mpr c_2), if_neg c_27, if_pos c_44, if_neg c_52], rfl⟩) hP hS dL_putBy_73
    · skip
      refine lv_lconst (v := lN 1) hx hb dL_putBy_30 (by decide) ?_
      refine lv_iload_n hx hb dL_putBy_31 rfl (lv_at hl 2 rfl) ?_
      refine lv_sipush (v := nI 200) hx hb dL_putBy_32 (by decide) ?_
      refine kcS X hP hS (c_L_up l hI (by decide)) v_L_57 ⟨Nat.le_of_ble_eq_true rfl, Nat.le_of_ble_eq_true rfl, rfl, rfl⟩ rfl rfl (Nat.le_of_ble_eq_true rfl) hl.1 ⟨Nat.zero_le _, Nat.zero_le _⟩ dL_putBy_35 (fun r_35 G_35 H locs hR hP hS => ?_)
      obtain ⟨rfl, hG_35⟩ := hR
      rw [hG_35] at hP
      clear hG_35
      refine lv_i2l hx hb dL_putBy_38 rfl ?_
      refine lv_ladd hx hb dL_putBy_39 ?_
      exact hret _ _ _ _ _ _ (⟨by
          unfold putF
          rw [if_neg (Classical.not_not.mpr c_2), if_pos c_27], rfl⟩) hP hS dL_putBy_40
  · skip
    refine lv_iload_n hx hb dL_putBy_5 rfl (lv_at hl 2 rfl) ?_
    refine lv_iload_n hx hb dL_putBy_6 rfl (lv_at hl 1 rfl) ?_
    refine lv_iconst (v := nI 3) hx hb dL_putBy_7 (by decide) ?_
    refine lv_iand hx hb dL_putBy_8 ?_
    first
      | refine kif_ne (tgt := 18) hx hb dL_putBy_9 (by decide) (fun c_9 => ?_) (fun c_9 => ?_)
      | refine lv_if_ne (tgt := 18) hx hb dL_putBy_9 (by decide) (fun c_9 => ?_) (fun c_9 => ?_)
    · skip
      refine lv_bipush (v := nI 60) hx hb dL_putBy_18 (by decide) ?_
      refine kcS X hP hS (c_L_up l hI (by decide)) v_L_57 ⟨Nat.le_of_ble_eq_true rfl, Nat.le_of_ble_eq_true rfl, rfl, rfl⟩ rfl rfl (Nat.le_of_ble_eq_true rfl) hl.1 ⟨Nat.zero_le _, Nat.zero_le _⟩ dL_putBy_20 (fun r_20 G_20 H locs hR hP hS => ?_)
      obtain ⟨rfl, hG_20⟩ := hR
      rw [hG_20] at hP
      clear hG_20
      refine lv_i2l hx hb dL_putBy_23 rfl ?_
      exact hret _ _ _ _ _ _ (⟨by
          unfold putF
          rw [if_pos c_2, if_neg c_9], rfl⟩) hP hS dL_putBy_24
    · skip
      refine lv_sipush (v := nI 10000) hx hb dL_putBy_12 (by decide) ?_
      refine lv_goto (tgt := 20) hx hb dL_putBy_15 (by decide) ?_
      refine kcS X hP hS (c_L_up l hI (by decide)) v_L_57 ⟨Nat.le_of_ble_eq_true rfl, Nat.le_of_ble_eq_true rfl, rfl, rfl⟩ rfl rfl (Nat.le_of_ble_eq_true rfl) hl.1 ⟨Nat.zero_le _, Nat.zero_le _⟩ dL_putBy_20 (fun r_20 G_20 H locs hR hP hS => ?_)
      obtain ⟨rfl, hG_20⟩ := hR
      rw [hG_20] at hP
      clear hG_20
      refine lv_i2l hx hb dL_putBy_23 rfl ?_
      exact hret _ _ _ _ _ _ (⟨by
          unfold putF
          rw [if_pos c_2, if_pos c_9], rfl⟩) hP hS dL_putBy_24
