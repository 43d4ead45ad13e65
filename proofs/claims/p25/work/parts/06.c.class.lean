
theorem rcR_j {G Gr : Nat → Nat → Int32} {pi : Nat → Nat} {L n k j : Nat} (h : rcR G Gr pi L n k) (hL4 : L ≤ 4) (hne : ∀ t, t < 4 → pi t ≠ j) (q : Nat) (h1 : sB j ≤ q) (h2 : q < sB j + 161) : Gr q = G q := by
  have := rotP_all (L := L) (Z := fun q => q ≠ j) hne (rotL_lt hL4)
  exact h.2.2.1 q (by unfold sB at h1; omega) (by unfold sB at h1; omega) (by unfold sB at h1 h2 ⊢; omega)
/-- what removing unseen versions does to state j -/
def ruR (G G' : Nat → Nat → Int32) (j n : Nat) (P : Nat → Nat) (v : Int32) : Prop := v = nI (cn (fun c => P c - (1 + cn (rf (snF G j n P c)) (P c))) 12) ∧ (∀ c, c < 12 → RT G G' j c (P c) (snF G j n P c)) ∧ (∀ f, f ≠ 8 → G' (sB j) f = G (sB j) f) ∧ G' (sB j) 8 = G (sB j) 8 + v ∧ ∀ k, k ≠ sB j → (∀ c, c < 12 → k ≠ cB j c ∧ k ≠ cV j c ∧ k ≠ cM j c) → G' k = G k
/-- a new reader in state 0 -/
def adR (G : Nat → Nat → Int32) (n : Nat) (x : Int32) : Nat → Nat → Int32 := gs (gs (gs (gs (gs (gs (gs (gs (gs G (rN 0 n) 1 0) (rN 0 n) 2 (G (sB 0) 3)) (rN 0 n) 3 x) (rN 0 n) 4 0) (rN 0 n) 5 0) (rN 0 n) 6 0) (rN 0 n) 7 0) (rN 0 n) 8 0) (sB 0) 6 (nI (n + 1))
def cmW (R : Nat → Int32) (y : Int32) : Int32 := if y = nI 0 then R 0 else if y = nI 1 then R 1 else if y = nI 2 then R 2 else if y = nI 3 then R 3 else if y = nI 4 then R 4 else if y = nI 5 then R 5 else -2
set_option maxHeartbeats 4000000 in
set_option maxRecDepth 100000 in
theorem c_X6_widow (l : Launch) {D : va_G} {τ : Nat → ClassId} {ad : Nat → Nat} (hI : kInj ad) {G : Nat → Nat → Int32} {n k L : Nat} {x y : Int32} {pi : Nat → Nat} (hL : G 8 1 = nI L) (hL4 : L ≤ 4) (hpi : ∀ t, t < 4 → G 9 t = nI (pi t) ∧ pi t < 7) (hne : ∀ t, t < 4 → pi t ≠ 0) (hn : G (sB 0) 6 = nI n) (hn4 : n ≤ 40) (hk : G (sB 0) 7 = nI k) (hk4 : k ≤ 40) (hz : ∀ r, r < n → G (rN 0 r) 8 = 0 ∨ G (rN 0 r) 8 = 1) (hy : G (sB 0) 9 = 0 ∨ G (sB 0) 9 = 1) {P : Nat → Nat} (hp : ∀ c, c < 12 → G (cB 0 c) 2 = nI (P c) ∧ 1 ≤ P c ∧ P c ≤ 10) : kM l yX6_widow cX6_widow 5 (some .int) { frames := 4, cells := 0, slots := 0, locals := 104 } D τ ad [.ref (ad 7), .int x, .int y] G (fun v G' => rdP n x (v = -1 ∧ G' = G) (fun r => if nI 1 ≤ y ∧ y ≤ nI 20 then (if G (rN 0 r) 1 = 0 ∧ G (rN 0 r) 8 = 0 then ∃ Gr, rcR G Gr pi L n k ∧ v = dueF Gr 0 n P r ∧ G' = gs (gs Gr (rN 0 r) 8 (nI 1)) (rN 0 r) 6 y else v = -4 ∧ G' = G) else v = -2 ∧ G' = G)) := by
  refine kMet (own := RX6) (by decide) rfl (Nat.le_of_ble_eq_true rfl) ?_
  intro p9 e9 s9 m9 args9 below9 meth9 c9 Q9 X hx hb hP hS hret ls hl
  have hPs := hP
  have hl : lv_has ls 5 [(0, .ref (ad 7)), (1, .int x), (2, .int y)] := hl
  refine lv_aload_n hx hb dX6_widow_0 rfl (lv_at hl 0 rfl) ?_
  refine kget X hP oX g_X6_12 rfl dX6_widow_1 ?_
  refine lv_iload_n hx hb dX6_widow_4 rfl (lv_at hl 1 rfl) ?_
  refine kcV X hP hS (c_X4_hasReader l hI (j := 0) (by omega)) (oS (j := 0) (by omega)) v_X6_51 ⟨Nat.le_of_ble_eq_true rfl, Nat.le_of_ble_eq_true rfl, rfl, rfl⟩ rfl rfl (Nat.le_of_ble_eq_true rfl) hl.1 ⟨Nat.zero_le _, Nat.zero_le _⟩ dX6_widow_5 (fun r_5 G_5 H locs hR hP hS => ?_)
  obtain ⟨rfl, hG_5⟩ := hR
  rw [hG_5] at hP
  clear hG_5
  first
    | refine kif_ne (tgt := 13) hx hb dX6_widow_8 (by decide) (fun c_8 => ?_) (fun c_8 => ?_)
    | refine lv_if_ne (tgt := 13) hx hb dX6_widow_8 (by decide) (fun c_8 => ?_) (fun c_8 => ?_)
  · skip
    obtain ⟨r, hr, rfl⟩ := hsR_yes hn4 (by rw [hn] at c_8; exact c_8)
    refine lv_iload_n hx hb dX6_widow_13 rfl (lv_at hl 2 rfl) ?_
    refine lv_iconst (v := nI 1) hx hb dX6_widow_14 (by decide) ?_
    first
      | refine kic_lt (tgt := 24) hx hb dX6_widow_15 (by decide) (by with_reducible rfl) (by with_reducible rfl) (by omega) (by omega) (fun c_15 => ?_) (fun c_15 => ?_)
      | refine lv_icmp_lt (tgt := 24) hx hb dX6_widow_15 (by decide) (fun c_15 => ?_) (fun c_15 => ?_)
    · skip
      refine lv_bipush (v := (-2)) hx hb dX6_widow_24 (by decide) ?_
      exact hret _ _ _ _ _ _ (rdP_h hr hn4 (by rw [if_neg (fun z => Int32.not_lt.mpr z.1 c_15)]; exact ⟨rfl, rfl⟩)) hP hS dX6_widow_26
    · skip
      refine lv_iload_n hx hb dX6_widow_18 rfl (lv_at hl 2 rfl) ?_
      refine lv_bipush (v := nI 20) hx hb dX6_widow_19 (by decide) ?_
      first
        | refine kic_le (tgt := 27) hx hb dX6_widow_21 (by decide) (by with_reducible rfl) (by with_reducible rfl) (by omega) (by omega) (fun c_21 => ?_) (fun c_21 => ?_)
        | refine lv_icmp_le (tgt := 27) hx hb dX6_widow_21 (by decide) (fun c_21 => ?_) (fun c_21 => ?_)
      · skip
        refine lv_aload_n hx hb dX6_widow_27 rfl (lv_at hl 0 rfl) ?_
        refine kget X hP oX g_X6_12 rfl dX6_widow_28 ?_
        refine kget X hP (oS (j := 0) (by omega)) g_X6_55 rfl dX6_widow_31 ?_
        refine lv_iload_n hx hb dX6_widow_34 rfl (lv_at hl 1 rfl) ?_
        refine kaald X hP (qR (j := 0) (by omega)) (by omega) rfl dX6_widow_35 ?_
        refine kast hx hb dX6_widow_36 rfl hl (by decide) (kp_3_3 rfl) (fun ls hl => ?_)
        refine lv_aload_n hx hb dX6_widow_37 rfl (lv_at hl 3 rfl) ?_
        refine kcV X hP hS (c_X3_isOpen l hI (j := 0) (by omega) (by omega)) (oR (j := 0) (r := r) (by omega) (by omega)) v_X6_59 ⟨Nat.le_of_ble_eq_true rfl, Nat.le_of_ble_eq_true rfl, rfl, rfl⟩ rfl rfl (Nat.le_of_ble_eq_true rfl) hl.1 ⟨Nat.zero_le _, Nat.zero_le _⟩ dX6_widow_38 (fun r_38 G_38 H locs hR hP hS => ?_)
        obtain ⟨rfl, hG_38⟩ := hR
        rw [hG_38] at hP
        clear hG_38
        first
          | refine kif_eq (tgt := 51) hx hb dX6_widow_41 (by decide) (fun c_41 => ?_) (fun c_41 => ?_)
          | refine lv_if_eq (tgt := 51) hx hb dX6_widow_41 (by decide) (fun c_41 => ?_) (fun c_41 => ?_)
        · skip
          refine lv_bipush (v := (-4)) hx hb dX6_widow_51 (by decide) ?_
          exact hret _ _ _ _ _ _ (rdP_h hr hn4 (by rw [if_pos ⟨Int32.not_lt.mp c_15, c_21⟩, if_neg (fun z => c_41 z.1)]; exact ⟨rfl, rfl⟩)) hP hS dX6_widow_53
        · skip
          refine lv_aload_n hx hb dX6_widow_44 rfl (lv_at hl 3 rfl) ?_
          refine kget X hP (oR (j := 0) (r := r) (by omega) (by omega)) g_X6_68 rfl dX6_widow_45 ?_
          first
            | refine kif_eq (tgt := 54) hx hb dX6_widow_48 (by decide) (fun c_48 => ?_) (fun c_48 => ?_)
            | refine lv_if_eq (tgt := 54) hx hb dX6_widow_48 (by decide) (fun c_48 => ?_) (fun c_48 => ?_)
          · skip
            refine lv_aload_n hx hb dX6_widow_54 rfl (lv_at hl 0 rfl) ?_
            refine kget X hP oX g_X6_25 rfl dX6_widow_55 ?_
            refine lv_aload_n hx hb dX6_widow_58 rfl (lv_at hl 0 rfl) ?_
            refine kget X hP oX g_X6_12 rfl dX6_widow_59 ?_
            refine kcVv X hP hS (c_X2_record l hI (j := 0) (n := n) (k := k) (L := L) (pi := pi) (by omega) hL hL4 hpi hne hn hn4 hk hk4 hz hy) oH v_X6_44 ⟨Nat.le_of_ble_eq_true rfl, Nat.le_of_ble_eq_true rfl, rfl, rfl⟩ rfl rfl (Nat.le_of_ble_eq_true rfl) hl.1 ⟨Nat.zero_le _, Nat.zero_le _⟩ dX6_widow_62 (fun G_62 H locs hR hP hS => ?_)
            have h_62 : rcR G G_62 pi L n k := hR
            have e0 := rcR_0 h_62 hL4 hne
            have er : G_62 (rN 0 r) = G (rN 0 r) := e0 _ (by unfold rN; omega) (by unfold rN; omega) (by unfold rN; omega)
            refine lv_aload_n hx hb dX6_widow_65 rfl (lv_at hl 0 rfl) ?_
            refine kget X hP oX g_X6_12 rfl dX6_widow_66 ?_
            refine lv_aload_n hx hb dX6_widow_69 rfl (lv_at hl 3 rfl) ?_
            refine kcV X hP hS (c_X4_dueOf l hI (j := 0) (n := n) (r := r) (P := P) (by omega) (by rw [e0 (sB 0) (by unfold sB; omega) (by unfold sB; omega) (by unfold sB; omega)]; exact hn) hn4 (by omega) (fun c hc => by rw [e0 (cB 0 c) (by unfold cB; omega) (by unfold cB; omega) (by unfold cB; omega)]; exact ⟨(hp c hc).1, (hp c hc).2.2⟩)) (oS (j := 0) (by omega)) v_X6_72 ⟨Nat.le_of_ble_eq_true rfl, Nat.le_of_ble_eq_true rfl, rfl, rfl⟩ rfl rfl (Nat.le_of_ble_eq_true rfl) hl.1 ⟨Nat.zero_le _, Nat.zero_le _⟩ dX6_widow_70 (fun r_70 G_70 H locs hR hP hS => ?_)
            obtain ⟨rfl, hG_70⟩ := hR
            rw [hG_70] at hP
            clear hG_70
            refine kistW hx hb dX6_widow_73 hl (by decide) (kp_4_4 rfl) (fun ls hl => ?_)
            refine lv_aload_n hx hb dX6_widow_75 rfl (lv_at hl 3 rfl) ?_
            refine lv_iconst (v := nI 1) hx hb dX6_widow_76 (by decide) ?_
            refine kput X hI hP hS (oR (j := 0) (r := r) (by omega) (by omega)) g_X6_68 (fun _ => rfl) rfl (fun _ => Nat.le_of_ble_eq_true rfl) rfl rfl dX6_widow_77 (fun H locs hP hS => ?_)
            refine lv_aload_n hx hb dX6_widow_80 rfl (lv_at hl 3 rfl) ?_
            refine lv_iload_n hx hb dX6_widow_81 rfl (lv_at hl 2 rfl) ?_
            refine kput X hI hP hS (oR (j := 0) (r := r) (by omega) (by omega)) g_X6_76 (fun _ => rfl) rfl (fun _ => Nat.le_of_ble_eq_true rfl) rfl rfl dX6_widow_82 (fun H locs hP hS => ?_)
            refine lv_iload hx hb dX6_widow_85 (lv_at hl 4 rfl) ?_
            exact hret _ _ _ _ _ _ (rdP_h hr hn4 (by rw [if_pos ⟨Int32.not_lt.mp c_15, c_21⟩, if_pos ⟨c_41, c_48⟩]; exact ⟨_, h_62, rfl, rfl⟩)) hP hS dX6_widow_87
          · skip
            refine lv_bipush (v := (-4)) hx hb dX6_widow_51 (by decide) ?_
            exact hret _ _ _ _ _ _ (rdP_h hr hn4 (by rw [if_pos ⟨Int32.not_lt.mp c_15, c_21⟩, if_neg (fun z => c_48 z.2)]; exact ⟨rfl, rfl⟩)) hP hS dX6_widow_53
      · skip
        refine lv_bipush (v := (-2)) hx hb dX6_widow_24 (by decide) ?_
        exact hret _ _ _ _ _ _ (rdP_h hr hn4 (by rw [if_neg (fun z => absurd z.2 c_21)]; exact ⟨rfl, rfl⟩)) hP hS dX6_widow_26
  · skip
    have hms := hsR_no hn4 (by rw [hn] at c_8; exact c_8)
    refine lv_iconst (v := (-1)) hx hb dX6_widow_11 (by decide) ?_
    exact hret _ _ _ _ _ _ (rdP_m hms ⟨rfl, rfl⟩) hP hS dX6_widow_12

set_option maxHeartbeats 4000000 in
set_option maxRecDepth 100000 in
theorem c_X6_close (l : Launch) {D : va_G} {τ : Nat → ClassId} {ad : Nat → Nat} (hI : kInj ad) {G : Nat → Nat → Int32} {n k L : Nat} {x : Int32} {pi : Nat → Nat} (hL : G 8 1 = nI L) (hL4 : L ≤ 4) (hpi : ∀ t, t < 4 → G 9 t = nI (pi t) ∧ pi t < 7) (hne : ∀ t, t < 4 → pi t ≠ 0) (hn : G (sB 0) 6 = nI n) (hn4 : n ≤ 40) (hk : G (sB 0) 7 = nI k) (hk4 : k ≤ 40) (hz : ∀ r, r < n → G (rN 0 r) 8 = 0 ∨ G (rN 0 r) 8 = 1) (hy : G (sB 0) 9 = 0 ∨ G (sB 0) 9 = 1) {P : Nat → Nat} (hp : ∀ c, c < 12 → G (cB 0 c) 2 = nI (P c) ∧ 1 ≤ P c ∧ P c ≤ 10) : kM l yX6_close cX6_close 3 (some .int) { frames := 4, cells := 0, slots := 0, locals := 104 } D τ ad [.ref (ad 7), .int x] G (fun v G' => rdP n x (v = -1 ∧ G' = G) (fun r => if G (rN 0 r) 1 = 0 then ∃ Gr, rcR G Gr pi L n k ∧ ruR (gs Gr (rN 0 r) 1 (nI 2)) G' 0 n P v else v = -4 ∧ G' = G)) := by
  refine kMet (own := RX6) (by decide) rfl (Nat.le_of_ble_eq_true rfl) ?_
  intro p9 e9 s9 m9 args9 below9 meth9 c9 Q9 X hx hb hP hS hret ls hl
  have hPs := hP
  have hl : lv_has ls 3 [(0, .ref (ad 7)), (1, .int x)] := hl
  refine lv_aload_n hx hb dX6_close_0 rfl (lv_at hl 0 rfl) ?_
  refine kget X hP oX g_X6_12 rfl dX6_close_1 ?_
  refine lv_iload_n hx hb dX6_close_4 rfl (lv_at hl 1 rfl) ?_
  refine kcV X hP hS (c_X4_hasReader l hI (j := 0) (by omega)) (oS (j := 0) (by omega)) v_X6_51 ⟨Nat.le_of_ble_eq_true rfl, Nat.le_of_ble_eq_true rfl, rfl, rfl⟩ rfl rfl (Nat.le_of_ble_eq_true rfl) hl.1 ⟨Nat.zero_le _, Nat.zero_le _⟩ dX6_close_5 (fun r_5 G_5 H locs hR hP hS => ?_)
  obtain ⟨rfl, hG_5⟩ := hR
  rw [hG_5] at hP
  clear hG_5
  first
    | refine kif_ne (tgt := 13) hx hb dX6_close_8 (by decide) (fun c_8 => ?_) (fun c_8 => ?_)
    | refine lv_if_ne (tgt := 13) hx hb dX6_close_8 (by decide) (fun c_8 => ?_) (fun c_8 => ?_)
  · skip
    obtain ⟨r, hr, rfl⟩ := hsR_yes hn4 (by rw [hn] at c_8; exact c_8)
    refine lv_aload_n hx hb dX6_close_13 rfl (lv_at hl 0 rfl) ?_
    refine kget X hP oX g_X6_12 rfl dX6_close_14 ?_
    refine kget X hP (oS (j := 0) (by omega)) g_X6_55 rfl dX6_close_17 ?_
    refine lv_iload_n hx hb dX6_close_20 rfl (lv_at hl 1 rfl) ?_
    refine kaald X hP (qR (j := 0) (by omega)) (by omega) rfl dX6_close_21 ?_
    refine kast hx hb dX6_close_22 rfl hl (by decide) (kp_2_2 rfl) (fun ls hl => ?_)
    refine lv_aload_n hx hb dX6_close_23 rfl (lv_at hl 2 rfl) ?_
    refine kcV X hP hS (c_X3_isOpen l hI (j := 0) (by omega) (by omega)) (oR (j := 0) (r := r) (by omega) (by omega)) v_X6_59 ⟨Nat.le_of_ble_eq_true rfl, Nat.le_of_ble_eq_true rfl, rfl, rfl⟩ rfl rfl (Nat.le_of_ble_eq_true rfl) hl.1 ⟨Nat.zero_le _, Nat.zero_le _⟩ dX6_close_24 (fun r_24 G_24 H locs hR hP hS => ?_)
    obtain ⟨rfl, hG_24⟩ := hR
    rw [hG_24] at hP
    clear hG_24
    first
      | refine kif_ne (tgt := 33) hx hb dX6_close_27 (by decide) (fun c_27 => ?_) (fun c_27 => ?_)
      | refine lv_if_ne (tgt := 33) hx hb dX6_close_27 (by decide) (fun c_27 => ?_) (fun c_27 => ?_)
    · skip
      refine lv_aload_n hx hb dX6_close_33 rfl (lv_at hl 0 rfl) ?_
      refine kget X hP oX g_X6_25 rfl dX6_close_34 ?_
      refine lv_aload_n hx hb dX6_close_37 rfl (lv_at hl 0 rfl) ?_
      refine kget X hP oX g_X6_12 rfl dX6_close_38 ?_
      refine kcVv X hP hS (c_X2_record l hI (j := 0) (n := n) (k := k) (L := L) (pi := pi) (by omega) hL hL4 hpi hne hn hn4 hk hk4 hz hy) oH v_X6_44 ⟨Nat.le_of_ble_eq_true rfl, Nat.le_of_ble_eq_true rfl, rfl, rfl⟩ rfl rfl (Nat.le_of_ble_eq_true rfl) hl.1 ⟨Nat.zero_le _, Nat.zero_le _⟩ dX6_close_41 (fun G_41 H locs hR hP hS => ?_)
      have h_41 : rcR G G_41 pi L n k := hR
      have e0 := rcR_0 h_41 hL4 hne
      have er : G_41 (rN 0 r) = G (rN 0 r) := e0 _ (by unfold rN; omega) (by unfold rN; omega) (by unfold rN; omega)
      refine lv_aload_n hx hb dX6_close_44 rfl (lv_at hl 2 rfl) ?_
      refine lv_iconst (v := nI 2) hx hb dX6_close_45 (by decide) ?_
      refine kput X hI hP hS (oR (j := 0) (r := r) (by omega) (by omega)) g_X6_79 (fun _ => rfl) rfl (fun _ => Nat.le_of_ble_eq_true rfl) rfl rfl dX6_close_46 (fun H locs hP hS => ?_)
      refine lv_aload_n hx hb dX6_close_49 rfl (lv_at hl 0 rfl) ?_
      refine kget X hP oX g_X6_12 rfl dX6_close_50 ?_
      refine kcV X hP hS (c_X4_removeUnseen l hI (j := 0) (n := n) (P := P) (by omega) (by rw [gs_other (by unfold sB rN; omega), e0 (sB 0) (by unfold sB; omega) (by unfold sB; omega) (by unfold sB; omega)]; exact hn) hn4 (fun c hc => by rw [gs_other (by unfold cB rN; omega), e0 (cB 0 c) (by unfold cB; omega) (by unfold cB; omega) (by unfold cB; omega)]; exact hp c hc)) (oS (j := 0) (by omega)) v_X6_82 ⟨Nat.le_of_ble_eq_true rfl, Nat.le_of_ble_eq_true rfl, rfl, rfl⟩ rfl rfl (Nat.le_of_ble_eq_true rfl) hl.1 ⟨Nat.zero_le _, Nat.zero_le _⟩ dX6_close_53 (fun r_53 G_53 H locs hR hP hS => ?_)
      have h_53 := hR
      exact hret _ _ _ _ _ _ (rdP_h hr hn4 (by rw [if_pos c_27]; exact ⟨_, h_41, h_53⟩)) hP hS dX6_close_56
    · skip
      refine lv_bipush (v := (-4)) hx hb dX6_close_30 (by decide) ?_
      exact hret _ _ _ _ _ _ (rdP_h hr hn4 (by rw [if_neg c_27]; exact ⟨rfl, rfl⟩)) hP hS dX6_close_32
  · skip
    have hms := hsR_no hn4 (by rw [hn] at c_8; exact c_8)
    refine lv_iconst (v := (-1)) hx hb dX6_close_11 (by decide) ?_
    exact hret _ _ _ _ _ _ (rdP_m hms ⟨rfl, rfl⟩) hP hS dX6_close_12

set_option maxHeartbeats 4000000 in
set_option maxRecDepth 100000 in
theorem c_X6_read (l : Launch) {D : va_G} {τ : Nat → ClassId} {ad : Nat → Nat} (hI : kInj ad) {G : Nat → Nat → Int32} {n k L : Nat} {x y : Int32} {pi : Nat → Nat} (hL : G 8 1 = nI L) (hL4 : L ≤ 4) (hpi : ∀ t, t < 4 → G 9 t = nI (pi t) ∧ pi t < 7) (hne : ∀ t, t < 4 → pi t ≠ 0) (hn : G (sB 0) 6 = nI n) (hn4 : n ≤ 40) (hk : G (sB 0) 7 = nI k) (hk4 : k ≤ 40) (hz : ∀ r, r < n → G (rN 0 r) 8 = 0 ∨ G (rN 0 r) 8 = 1) (hy : G (sB 0) 9 = 0 ∨ G (sB 0) 9 = 1) {P : Nat → Nat} (hp : ∀ c, c < 12 → G (cB 0 c) 2 = nI (P c) ∧ 1 ≤ P c ∧ P c ≤ 10) : kM l yX6_read cX6_read 4 (some .int) { frames := 4, cells := 0, slots := 0, locals := 104 } D τ ad [.ref (ad 7), .int x, .int y] G (fun v G' => rdP n x (v = -1 ∧ G' = G) (fun r => rdP 12 y (v = -1 ∧ G' = G) (fun c => if G (rN 0 r) 1 = 0 then ∃ Gr, rcR G Gr pi L n k ∧ (if hw (G (rN 0 r) 5) c then v = G (rW 0 r) c ∧ G' = Gr else v = vsF (G (cV 0 c)) (G (cM 0 c)) (G (rN 0 r) 2) (P c) ∧ G' = gs Gr (rN 0 r) 4 (G (rN 0 r) 4 ||| bt c)) else v = -4 ∧ G' = G))) := by
  refine kMet (own := RX6) (by decide) rfl (Nat.le_of_ble_eq_true rfl) ?_
  intro p9 e9 s9 m9 args9 below9 meth9 c9 Q9 X hx hb hP hS hret ls hl
  have hPs := hP
  have hl : lv_has ls 4 [(0, .ref (ad 7)), (1, .int x), (2, .int y)] := hl
  refine lv_aload_n hx hb dX6_read_0 rfl (lv_at hl 0 rfl) ?_
  refine kget X hP oX g_X6_12 rfl dX6_read_1 ?_
  refine lv_iload_n hx hb dX6_read_4 rfl (lv_at hl 1 rfl) ?_
  refine kcV X hP hS (c_X4_hasReader l hI (j := 0) (by omega)) (oS (j := 0) (by omega)) v_X6_51 ⟨Nat.le_of_ble_eq_true rfl, Nat.le_of_ble_eq_true rfl, rfl, rfl⟩ rfl rfl (Nat.le_of_ble_eq_true rfl) hl.1 ⟨Nat.zero_le _, Nat.zero_le _⟩ dX6_read_5 (fun r_5 G_5 H locs hR hP hS => ?_)
  obtain ⟨rfl, hG_5⟩ := hR
  rw [hG_5] at hP
  clear hG_5
  first
    | refine kif_eq (tgt := 18) hx hb dX6_read_8 (by decide) (fun c_8 => ?_) (fun c_8 => ?_)
    | refine lv_if_eq (tgt := 18) hx hb dX6_read_8 (by decide) (fun c_8 => ?_) (fun c_8 => ?_)
  · skip
    have hms := hsR_no hn4 (by rw [hn] at c_8; exact c_8)
    refine lv_iconst (v := (-1)) hx hb dX6_read_18 (by decide) ?_
    exact hret _ _ _ _ _ _ (rdP_m hms ⟨rfl, rfl⟩) hP hS dX6_read_19
  · skip
    obtain ⟨r, hr, rfl⟩ := hsR_yes hn4 (by rw [hn] at c_8; exact c_8)
    refine lv_iload_n hx hb dX6_read_11 rfl (lv_at hl 2 rfl) ?_
    refine kcS X hP hS (c_X6_isCell l hI) v_X6_99 ⟨Nat.le_of_ble_eq_true rfl, Nat.le_of_ble_eq_true rfl, rfl, rfl⟩ rfl rfl (Nat.le_of_ble_eq_true rfl) hl.1 ⟨Nat.zero_le _, Nat.zero_le _⟩ dX6_read_12 (fun r_12 G_12 H locs hR hP hS => ?_)
    obtain ⟨rfl, hG_12⟩ := hR
    rw [hG_12] at hP
    clear hG_12
    first
      | refine kif_ne (tgt := 20) hx hb dX6_read_15 (by decide) (fun c_15 => ?_) (fun c_15 => ?_)
      | refine lv_if_ne (tgt := 20) hx hb dX6_read_15 (by decide) (fun c_15 => ?_) (fun c_15 => ?_)
    · skip
      obtain ⟨c, hc, rfl⟩ := hsR_yes (n := 12) (by omega) c_15
      refine lv_aload_n hx hb dX6_read_20 rfl (lv_at hl 0 rfl) ?_
      refine kget X hP oX g_X6_12 rfl dX6_read_21 ?_
      refine kget X hP (oS (j := 0) (by omega)) g_X6_55 rfl dX6_read_24 ?_
      refine lv_iload_n hx hb dX6_read_27 rfl (lv_at hl 1 rfl) ?_
      refine kaald X hP (qR (j := 0) (by omega)) (by omega) rfl dX6_read_28 ?_
      refine kast hx hb dX6_read_29 rfl hl (by decide) (kp_3_3 rfl) (fun ls hl => ?_)
      refine lv_aload_n hx hb dX6_read_30 rfl (lv_at hl 3 rfl) ?_
      refine kcV X hP hS (c_X3_isOpen l hI (j := 0) (by omega) (by omega)) (oR (j := 0) (r := r) (by omega) (by omega)) v_X6_59 ⟨Nat.le_of_ble_eq_true rfl, Nat.le_of_ble_eq_true rfl, rfl, rfl⟩ rfl rfl (Nat.le_of_ble_eq_true rfl) hl.1 ⟨Nat.zero_le _, Nat.zero_le _⟩ dX6_read_31 (fun r_31 G_31 H locs hR hP hS => ?_)
      obtain ⟨rfl, hG_31⟩ := hR
      rw [hG_31] at hP
      clear hG_31
      first
        | refine kif_ne (tgt := 40) hx hb dX6_read_34 (by decide) (fun c_34 => ?_) (fun c_34 => ?_)
        | refine lv_if_ne (tgt := 40) hx hb dX6_read_34 (by decide) (fun c_34 => ?_) (fun c_34 => ?_)
      · skip
        refine lv_aload_n hx hb dX6_read_40 rfl (lv_at hl 0 rfl) ?_
        refine kget X hP oX g_X6_25 rfl dX6_read_41 ?_
        refine lv_aload_n hx hb dX6_read_44 rfl (lv_at hl 0 rfl) ?_
        refine kget X hP oX g_X6_12 rfl dX6_read_45 ?_
        refine kcVv X hP hS (c_X2_record l hI (j := 0) (n := n) (k := k) (L := L) (pi := pi) (by omega) hL hL4 hpi hne hn hn4 hk hk4 hz hy) oH v_X6_44 ⟨Nat.le_of_ble_eq_true rfl, Nat.le_of_ble_eq_true rfl, rfl, rfl⟩ rfl rfl (Nat.le_of_ble_eq_true rfl) hl.1 ⟨Nat.zero_le _, Nat.zero_le _⟩ dX6_read_48 (fun G_48 H locs hR hP hS => ?_)
        have h_48 : rcR G G_48 pi L n k := hR
        have e0 := rcR_0 h_48 hL4 hne
        have er : G_48 (rN 0 r) = G (rN 0 r) := e0 _ (by unfold rN; omega) (by unfold rN; omega) (by unfold rN; omega)
        refine lv_aload_n hx hb dX6_read_51 rfl (lv_at hl 3 rfl) ?_
        refine lv_iload_n hx hb dX6_read_52 rfl (lv_at hl 2 rfl) ?_
        refine kcV X hP hS (c_X3_hasWrite l hI (j := 0) (k := c) (by omega) (by omega)) (oR (j := 0) (r := r) (by omega) (by omega)) v_X6_102 ⟨Nat.le_of_ble_eq_true rfl, Nat.le_of_ble_eq_true rfl, rfl, rfl⟩ rfl rfl (Nat.le_of_ble_eq_true rfl) hl.1 ⟨Nat.zero_le _, Nat.zero_le _⟩ dX6_read_53 (fun r_53 G_53 H locs hR hP hS => ?_)
        obtain ⟨rfl, hG_53⟩ := hR
        rw [hG_53] at hP
        clear hG_53
        rw [er]
        first
          | refine kif_eq (tgt := 66) hx hb dX6_read_56 (by decide) (fun c_56 => ?_) (fun c_56 => ?_)
          | refine lv_if_eq (tgt := 66) hx hb dX6_read_56 (by decide) (fun c_56 => ?_) (fun c_56 => ?_)
        · skip
          refine lv_aload_n hx hb dX6_read_66 rfl (lv_at hl 3 rfl) ?_
          refine lv_dup hx hb dX6_read_67 rfl ?_
          refine kget X hP (oR (j := 0) (r := r) (by omega) (by omega)) g_X6_109 rfl dX6_read_68 ?_
          rw [er]
          refine lv_iconst (v := nI 1) hx hb dX6_read_71 (by decide) ?_
          refine lv_iload_n hx hb dX6_read_72 rfl (lv_at hl 2 rfl) ?_
          refine lv_ishl hx hb dX6_read_73 ?_
          refine lv_ior hx hb dX6_read_74 ?_
          refine kput X hI hP hS (oR (j := 0) (r := r) (by omega) (by omega)) g_X6_109 (fun _ => rfl) rfl (fun _ => Nat.le_of_ble_eq_true rfl) rfl rfl dX6_read_75 (fun H locs hP hS => ?_)
          refine lv_aload_n hx hb dX6_read_78 rfl (lv_at hl 0 rfl) ?_
          refine kget X hP oX g_X6_12 rfl dX6_read_79 ?_
          refine kget X hP (oS (j := 0) (by omega)) g_X6_112 rfl dX6_read_82 ?_
          refine lv_iload_n hx hb dX6_read_85 rfl (lv_at hl 2 rfl) ?_
          refine kaald X hP (qC (j := 0) (by omega)) (by omega) rfl dX6_read_86 ?_
          refine lv_aload_n hx hb dX6_read_87 rfl (lv_at hl 3 rfl) ?_
          refine kget X hP (oR (j := 0) (r := r) (by omega) (by omega)) g_X6_116 rfl dX6_read_88 ?_
          refine kcV X hP hS (c_X0_valueSeenAt l hI (j := 0) (c := c) (P := P c) (by omega) hc (by rw [gs_other (by unfold cB rN; omega), e0 (cB 0 c) (by unfold cB; omega) (by unfold cB; omega) (by unfold cB; omega)]; exact (hp c hc).1) (hp c hc).2.2) (oC (j := 0) (c := c) (by omega) hc) v_X6_119 ⟨Nat.le_of_ble_eq_true rfl, Nat.le_of_ble_eq_true rfl, rfl, rfl⟩ rfl rfl (Nat.le_of_ble_eq_true rfl) hl.1 ⟨Nat.zero_le _, Nat.zero_le _⟩ dX6_read_91 (fun r_91 G_91 H locs hR hP hS => ?_)
          obtain ⟨rfl, hG_91⟩ := hR
          rw [hG_91] at hP
          clear hG_91
          exact hret _ _ _ _ _ _ (rdP_h hr hn4 (rdP_h hc (by omega) (by rw [if_pos c_34]; exact ⟨_, h_48, by rw [if_neg c_56]; exact ⟨by rw [gs_other (k := rN 0 r) (by unfold cV rN; omega), gs_other (k := rN 0 r) (by unfold cM rN; omega), gs_row (by omega), er, e0 (cV 0 c) (by unfold cV; omega) (by unfold cV; omega) (by unfold cV; omega), e0 (cM 0 c) (by unfold cM; omega) (by unfold cM; omega) (by unfold cM; omega)], rfl⟩⟩))) hP hS dX6_read_94
        · skip
          refine lv_aload_n hx hb dX6_read_59 rfl (lv_at hl 3 rfl) ?_
          refine kget X hP (oR (j := 0) (r := r) (by omega) (by omega)) g_X6_105 rfl dX6_read_60 ?_
          refine lv_iload_n hx hb dX6_read_63 rfl (lv_at hl 2 rfl) ?_
          refine kiald X hP (aW (j := 0) (r := r) (by omega) (by omega)) (by omega) dX6_read_64 ?_
          exact hret _ _ _ _ _ _ (rdP_h hr hn4 (rdP_h hc (by omega) (by rw [if_pos c_34]; exact ⟨_, h_48, by rw [if_pos c_56]; exact ⟨by rw [e0 (rW 0 r) (by unfold rW; omega) (by unfold rW; omega) (by unfold rW; omega)], rfl⟩⟩))) hP hS dX6_read_65
      · skip
        refine lv_bipush (v := (-4)) hx hb dX6_read_37 (by decide) ?_
        exact hret _ _ _ _ _ _ (rdP_h hr hn4 (rdP_h hc (by omega) (by rw [if_neg c_34]; exact ⟨rfl, rfl⟩))) hP hS dX6_read_39
    · skip
      have hmc := hsR_no (n := 12) (by omega) c_15
      refine lv_iconst (v := (-1)) hx hb dX6_read_18 (by decide) ?_
      exact hret _ _ _ _ _ _ (rdP_h hr hn4 (rdP_m hmc ⟨rfl, rfl⟩)) hP hS dX6_read_19

set_option maxHeartbeats 4000000 in
set_option maxRecDepth 100000 in
theorem c_X6_open (l : Launch) {D : va_G} {τ : Nat → ClassId} {ad : Nat → Nat} (hI : kInj ad) {G : Nat → Nat → Int32} {n k L : Nat} {y : Int32} {pi : Nat → Nat} (hL : G 8 1 = nI L) (hL4 : L ≤ 4) (hpi : ∀ t, t < 4 → G 9 t = nI (pi t) ∧ pi t < 7) (hne : ∀ t, t < 4 → pi t ≠ 0) (hn : G (sB 0) 6 = nI n) (hn4 : n ≤ 40) (hk : G (sB 0) 7 = nI k) (hk4 : k ≤ 40) (hz : ∀ r, r < n → G (rN 0 r) 8 = 0 ∨ G (rN 0 r) 8 = 1) (hy : G (sB 0) 9 = 0 ∨ G (sB 0) 9 = 1) : kM l yX6_open cX6_open 2 (some .int) { frames := 4, cells := 0, slots := 0, locals := 104 } D τ ad [.ref (ad 7), .int y] G (fun v G' => if nI 0 ≤ y ∧ y ≤ nI 9999 then (if n = 40 ∨ 8 ≤ cn (fun i => if G (rN 0 i) 1 = nI 0 then 1 else 0) n then v = -3 ∧ G' = G else ∃ Gr, rcR G Gr pi L n k ∧ v = nI n ∧ G' = adR Gr n y) else v = -2 ∧ G' = G) := by
  refine kMet (own := RX6) (by decide) rfl (Nat.le_of_ble_eq_true rfl) ?_
  intro p9 e9 s9 m9 args9 below9 meth9 c9 Q9 X hx hb hP hS hret ls hl
  have hPs := hP
  have hl : lv_has ls 2 [(0, .ref (ad 7)), (1, .int y)] := hl
  refine lv_iload_n hx hb dX6_open_0 rfl (lv_at hl 1 rfl) ?_
  refine lv_if_lt (tgt := 11) hx hb dX6_open_1 (by decide) (fun c_1 => ?_) (fun c_1 => ?_)
  · skip
    refine lv_bipush (v := (-2)) hx hb dX6_open_11 (by decide) ?_
    exact hret _ _ _ _ _ _ (by rw [if_neg (fun z => Int32.not_lt.mpr z.1 c_1)]; exact ⟨rfl, rfl⟩) hP hS dX6_open_13
  · skip
    refine lv_iload_n hx hb dX6_open_4 rfl (lv_at hl 1 rfl) ?_
    refine lv_sipush (v := nI 9999) hx hb dX6_open_5 (by decide) ?_
    first
      | refine kic_le (tgt := 14) hx hb dX6_open_8 (by decide) (by with_reducible rfl) (by with_reducible rfl) (by omega) (by omega) (fun c_8 => ?_) (fun c_8 => ?_)
      | refine lv_icmp_le (tgt := 14) hx hb dX6_open_8 (by decide) (fun c_8 => ?_) (fun c_8 => ?_)
    · skip
      refine lv_aload_n hx hb dX6_open_14 rfl (lv_at hl 0 rfl) ?_
      refine kget X hP oX g_X6_12 rfl dX6_open_15 ?_
      refine kget X hP (oS (j := 0) (by omega)) g_X6_36 (congrArg (fun z => some (Value.int z)) hn) dX6_open_18 ?_
      refine lv_bipush (v := nI 40) hx hb dX6_open_21 (by decide) ?_
      first
        | refine kic_ge (tgt := 39) hx hb dX6_open_23 (by decide) (by with_reducible rfl) (by with_reducible rfl) (by omega) (by omega) (fun c_23 => ?_) (fun c_23 => ?_)
        | refine lv_icmp_ge (tgt := 39) hx hb dX6_open_23 (by decide) (fun c_23 => ?_) (fun c_23 => ?_)
      · skip
        refine lv_bipush (v := (-3)) hx hb dX6_open_39 (by decide) ?_
        exact hret _ _ _ _ _ _ (by rw [if_pos ⟨Int32.not_lt.mp c_1, c_8⟩, if_pos (Or.inl (by omega))]; exact ⟨rfl, rfl⟩) hP hS dX6_open_41
      · skip
        refine lv_aload_n hx hb dX6_open_26 rfl (lv_at hl 0 rfl) ?_
        refine kget X hP oX g_X6_12 rfl dX6_open_27 ?_
        refine lv_iconst (v := nI 0) hx hb dX6_open_30 (by decide) ?_
        refine kcV X hP hS (c_X4_readersIn l hI (j := 0) (by omega) hn hn4) (oS (j := 0) (by omega)) v_X6_40 ⟨Nat.le_of_ble_eq_true rfl, Nat.le_of_ble_eq_true rfl, rfl, rfl⟩ rfl rfl (Nat.le_of_ble_eq_true rfl) hl.1 ⟨Nat.zero_le _, Nat.zero_le _⟩ dX6_open_31 (fun r_31 G_31 H locs hR hP hS => ?_)
        obtain ⟨rfl, hG_31⟩ := hR
        rw [hG_31] at hP
        clear hG_31
        have hcn := cn_le (f := fun i => if G (rN 0 i) 1 = nI 0 then 1 else 0) (n := n) (fun i _ => by split <;> omega)
        refine lv_bipush (v := nI 8) hx hb dX6_open_34 (by decide) ?_
        first
          | refine kic_lt (tgt := 42) hx hb dX6_open_36 (by decide) (by with_reducible rfl) (by with_reducible rfl) (by omega) (by omega) (fun c_36 => ?_) (fun c_36 => ?_)
          | refine lv_icmp_lt (tgt := 42) hx hb dX6_open_36 (by decide) (fun c_36 => ?_) (fun c_36 => ?_)
        · skip
          refine lv_aload_n hx hb dX6_open_42 rfl (lv_at hl 0 rfl) ?_
          refine kget X hP oX g_X6_25 rfl dX6_open_43 ?_
          refine lv_aload_n hx hb dX6_open_46 rfl (lv_at hl 0 rfl) ?_
          refine kget X hP oX g_X6_12 rfl dX6_open_47 ?_
          refine kcVv X hP hS (c_X2_record l hI (j := 0) (n := n) (k := k) (L := L) (pi := pi) (by omega) hL hL4 hpi hne hn hn4 hk hk4 hz hy) oH v_X6_44 ⟨Nat.le_of_ble_eq_true rfl, Nat.le_of_ble_eq_true rfl, rfl, rfl⟩ rfl rfl (Nat.le_of_ble_eq_true rfl) hl.1 ⟨Nat.zero_le _, Nat.zero_le _⟩ dX6_open_50 (fun G_50 H locs hR hP hS => ?_)
          have h_50 : rcR G G_50 pi L n k := hR
          have e0 := rcR_0 h_50 hL4 hne
          refine lv_aload_n hx hb dX6_open_53 rfl (lv_at hl 0 rfl) ?_
          refine kget X hP oX g_X6_12 rfl dX6_open_54 ?_
          refine lv_iload_n hx hb dX6_open_57 rfl (lv_at hl 1 rfl) ?_
          refine kcV X hP hS (c_X4_addReader l hI (j := 0) (n := n) (by omega) (by rw [e0 (sB 0) (by unfold sB; omega) (by unfold sB; omega) (by unfold sB; omega)]; exact hn) (by omega)) (oS (j := 0) (by omega)) v_X6_48 ⟨Nat.le_of_ble_eq_true rfl, Nat.le_of_ble_eq_true rfl, rfl, rfl⟩ rfl rfl (Nat.le_of_ble_eq_true rfl) hl.1 ⟨Nat.zero_le _, Nat.zero_le _⟩ dX6_open_58 (fun r_58 G_58 H locs hR hP hS => ?_)
          have h_58 := hR
          exact hret _ _ _ _ _ _ (by rw [if_pos ⟨Int32.not_lt.mp c_1, c_8⟩, if_neg (by omega)]; exact ⟨_, h_50, h_58⟩) hP hS dX6_open_61
        · skip
          refine lv_bipush (v := (-3)) hx hb dX6_open_39 (by decide) ?_
          exact hret _ _ _ _ _ _ (by rw [if_pos ⟨Int32.not_lt.mp c_1, c_8⟩, if_pos (Or.inr (by omega))]; exact ⟨rfl, rfl⟩) hP hS dX6_open_41
    · skip
      refine lv_bipush (v := (-2)) hx hb dX6_open_11 (by decide) ?_
      exact hret _ _ _ _ _ _ (by rw [if_neg (fun z => absurd z.2 c_8)]; exact ⟨rfl, rfl⟩) hP hS dX6_open_13

set_option maxHeartbeats 4000000 in
set_option maxRecDepth 100000 in
theorem c_X6_committed (l : Launch) {D : va_G} {τ : Nat → ClassId} {ad : Nat → Nat} (hI : kInj ad) {G : Nat → Nat → Int32} {k : Nat} {x y : Int32} (hk : G (sB 0) 7 = nI k) (hk4 : k ≤ 40) : kM l yX6_committed cX6_committed 4 (some .int) { frames := 0, cells := 0, slots := 0, locals := 0 } D τ ad [.ref (ad 7), .int x, .int y] G (fun v G' => G' = G ∧ rdP k x (v = -1) (fun q => v = cmW (G (mC 0 q)) y)) := by
  refine kMet (own := RX6) (by decide) rfl (Nat.le_of_ble_eq_true rfl) ?_
  intro p9 e9 s9 m9 args9 below9 meth9 c9 Q9 X hx hb hP hS hret ls hl
  have hPs := hP
  have hl : lv_has ls 4 [(0, .ref (ad 7)), (1, .int x), (2, .int y)] := hl
  refine lv_iload_n hx hb dX6_committed_0 rfl (lv_at hl 1 rfl) ?_
  refine lv_if_lt (tgt := 15) hx hb dX6_committed_1 (by decide) (fun c_1 => ?_) (fun c_1 => ?_)
  · skip
    refine lv_iconst (v := (-1)) hx hb dX6_committed_15 (by decide) ?_
    exact hret _ _ _ _ _ _ (⟨rfl, rdP_m (hsR_no hk4 (fun z => Int32.not_lt.mpr z.1 c_1)) rfl⟩) hP hS dX6_committed_16
  · skip
    refine lv_iload_n hx hb dX6_committed_4 rfl (lv_at hl 1 rfl) ?_
    refine lv_aload_n hx hb dX6_committed_5 rfl (lv_at hl 0 rfl) ?_
    refine kget X hP oX g_X6_12 rfl dX6_committed_6 ?_
    refine kget X hP (oS (j := 0) (by omega)) g_X6_210 (congrArg (fun z => some (Value.int z)) hk) dX6_committed_9 ?_
    first
      | refine kic_lt (tgt := 17) hx hb dX6_committed_12 (by decide) (by with_reducible rfl) (by with_reducible rfl) (by omega) (by omega) (fun c_12 => ?_) (fun c_12 => ?_)
      | refine lv_icmp_lt (tgt := 17) hx hb dX6_committed_12 (by decide) (fun c_12 => ?_) (fun c_12 => ?_)
    · skip
      obtain ⟨r, hr, rfl⟩ := hsR_yes hk4 ⟨Int32.not_lt.mp c_1, c_12⟩
      refine lv_aload_n hx hb dX6_committed_17 rfl (lv_at hl 0 rfl) ?_
      refine kget X hP oX g_X6_12 rfl dX6_committed_18 ?_
      refine kget X hP (oS (j := 0) (by omega)) g_X6_213 rfl dX6_committed_21 ?_
      refine lv_iload_n hx hb dX6_committed_24 rfl (lv_at hl 1 rfl) ?_
      refine kaald X hP (qM (j := 0) (by omega)) (by omega) rfl dX6_committed_25 ?_
      refine kast hx hb dX6_committed_26 rfl hl (by decide) (kp_3_3 rfl) (fun ls hl => ?_)
      refine lv_iload_n hx hb dX6_committed_27 rfl (lv_at hl 2 rfl) ?_
      by_cases q_0 : y = nI 0
      · skip
        subst q_0
        refine lv_tableIn (off := 40) (tgt := 68) hx hb dX6_committed_28 (by decide) (by decide) rfl (by decide) ?_
        refine lv_aload_n hx hb dX6_committed_68 rfl (lv_at hl 3 rfl) ?_
        refine kget X hP (oM (j := 0) (q := r) (by omega) (by omega)) g_X6_217 rfl dX6_committed_69 ?_
        exact hret _ _ _ _ _ _ (⟨rfl, rdP_h hr hk4 (by rw [cmW, if_pos (rfl : nI 0 = nI 0)])⟩) hP hS dX6_committed_72
      by_cases q_1 : y = nI 1
      · skip
        subst q_1
        refine lv_tableIn (off := 45) (tgt := 73) hx hb dX6_committed_28 (by decide) (by decide) rfl (by decide) ?_
        refine lv_aload_n hx hb dX6_committed_73 rfl (lv_at hl 3 rfl) ?_
        refine kget X hP (oM (j := 0) (q := r) (by omega) (by omega)) g_X6_222 rfl dX6_committed_74 ?_
        exact hret _ _ _ _ _ _ (⟨rfl, rdP_h hr hk4 (by rw [cmW, if_neg q_0, if_pos (rfl : nI 1 = nI 1)])⟩) hP hS dX6_committed_77
      by_cases q_2 : y = nI 2
      · skip
        subst q_2
        refine lv_tableIn (off := 50) (tgt := 78) hx hb dX6_committed_28 (by decide) (by decide) rfl (by decide) ?_
        refine lv_aload_n hx hb dX6_committed_78 rfl (lv_at hl 3 rfl) ?_
        refine kget X hP (oM (j := 0) (q := r) (by omega) (by omega)) g_X6_225 rfl dX6_committed_79 ?_
        exact hret _ _ _ _ _ _ (⟨rfl, rdP_h hr hk4 (by rw [cmW, if_neg q_0, if_neg q_1, if_pos (rfl : nI 2 = nI 2)])⟩) hP hS dX6_committed_82
      by_cases q_3 : y = nI 3
      · skip
        subst q_3
        refine lv_tableIn (off := 55) (tgt := 83) hx hb dX6_committed_28 (by decide) (by decide) rfl (by decide) ?_
        refine lv_aload_n hx hb dX6_committed_83 rfl (lv_at hl 3 rfl) ?_
        refine kget X hP (oM (j := 0) (q := r) (by omega) (by omega)) g_X6_228 rfl dX6_committed_84 ?_
        exact hret _ _ _ _ _ _ (⟨rfl, rdP_h hr hk4 (by rw [cmW, if_neg q_0, if_neg q_1, if_neg q_2, if_pos (rfl : nI 3 = nI 3)])⟩) hP hS dX6_committed_87
      by_cases q_4 : y = nI 4
      · skip
        subst q_4
        refine lv_tableIn (off := 60) (tgt := 88) hx hb dX6_committed_28 (by decide) (by decide) rfl (by decide) ?_
        refine lv_aload_n hx hb dX6_committed_88 rfl (lv_at hl 3 rfl) ?_
        refine kget X hP (oM (j := 0) (q := r) (by omega) (by omega)) g_X6_229 rfl dX6_committed_89 ?_
        exact hret _ _ _ _ _ _ (⟨rfl, rdP_h hr hk4 (by rw [cmW, if_neg q_0, if_neg q_1, if_neg q_2, if_neg q_3, if_pos (rfl : nI 4 = nI 4)])⟩) hP hS dX6_committed_92
      by_cases q_5 : y = nI 5
      · skip
        subst q_5
        refine lv_tableIn (off := 65) (tgt := 93) hx hb dX6_committed_28 (by decide) (by decide) rfl (by decide) ?_
        refine lv_aload_n hx hb dX6_committed_93 rfl (lv_at hl 3 rfl) ?_
        refine kget X hP (oM (j := 0) (q := r) (by omega) (by omega)) g_X6_230 rfl dX6_committed_94 ?_
        exact hret _ _ _ _ _ _ (⟨rfl, rdP_h hr hk4 (by rw [cmW, if_neg q_0, if_neg q_1, if_neg q_2, if_neg q_3, if_neg q_4, if_pos (rfl : nI 5 = nI 5)])⟩) hP hS dX6_committed_97
      refine lv_tableOut (tgt := 98) hx hb dX6_committed_28 (tb_out 5 (by decide) (fun i hi => by
          rcases (show i = 0 ∨ i = 1 ∨ i = 2 ∨ i = 3 ∨ i = 4 ∨ i = 5 by omega) with rfl | rfl | rfl | rfl | rfl | rfl <;> assumption)) (by decide) ?_
      refine lv_bipush (v := (-2)) hx hb dX6_committed_98 (by decide) ?_
      exact hret _ _ _ _ _ _ (⟨rfl, rdP_h hr hk4 (by rw [cmW, if_neg q_0, if_neg q_1, if_neg q_2, if_neg q_3, if_neg q_4, if_neg q_5])⟩) hP hS dX6_committed_100
    · skip
      refine lv_iconst (v := (-1)) hx hb dX6_committed_15 (by decide) ?_
      exact hret _ _ _ _ _ _ (⟨rfl, rdP_m (hsR_no hk4 (fun z => absurd z.2 c_12)) rfl⟩) hP hS dX6_committed_16
