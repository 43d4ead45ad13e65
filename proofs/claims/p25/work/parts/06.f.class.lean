
def vrC (G : Nat → Nat → Int32) (n c P : Nat) (p y : Int32) : Int32 := if y = nI 0 then G (cV 0 c) p.toNatClampNeg else if y = nI 1 then G (cM 0 c) p.toNatClampNeg else if y = nI 2 then nI (cn (fun i => if G (rN 0 i) 1 = 0 ∧ pf (G (cM 0 c)) (G (rN 0 i) 2) 0 P = p then 1 else 0) n) else if y = nI 3 then nI (cn (fun i => if (G (rN 0 i) 1 = 0 ∧ G (rN 0 i) 6 = 0) ∧ pf (G (cM 0 c)) (G (rN 0 i) 2) 0 P = p then 1 else 0) n) else shF G 0 n c P p
theorem rcR_k {G Gr : Nat → Nat → Int32} {pi : Nat → Nat} {L n k : Nat} (h : rcR G Gr pi L n k) (hL4 : L ≤ 4) (hne : ∀ t, t < 4 → pi t ≠ 0) {P : Nat → Nat} (hn : G (sB 0) 6 = nI n) (hp : ∀ c, c < 12 → G (cB 0 c) 2 = nI (P c) ∧ 1 ≤ P c ∧ P c ≤ 10) : PLS Gr 0 n P := by
  have e0 := rcR_0 h hL4 hne
  refine ⟨by rw [e0 _ (by unfold sB; omega) (by unfold sB; omega) (by unfold sB; omega)]; exact hn, fun c hc => ?_⟩
  rw [e0 _ (by unfold cB; omega) (by unfold cB; omega) (by unfold cB; omega)]
  exact hp c hc
set_option maxHeartbeats 4000000 in
set_option maxRecDepth 100000 in
theorem c_X6_commit (l : Launch) {D : va_G} {τ : Nat → ClassId} {ad : Nat → Nat} (hI : kInj ad) {G : Nat → Nat → Int32} {n k L : Nat} {mm : Nat} {x : Int32} {pi : Nat → Nat} (hL : G 8 1 = nI L) (hL4 : L ≤ 4) (hpi : ∀ t, t < 4 → G 9 t = nI (pi t) ∧ pi t < 7) (hne : ∀ t, t < 4 → pi t ≠ 0) (hn : G (sB 0) 6 = nI n) (hn4 : n ≤ 40) (hk : G (sB 0) 7 = nI k) (hk4 : k ≤ 40) (hz : ∀ r, r < n → G (rN 0 r) 8 = 0 ∨ G (rN 0 r) 8 = 1) (hy : G (sB 0) 9 = 0 ∨ G (sB 0) 9 = 1) {P : Nat → Nat} (hp : ∀ c, c < 12 → G (cB 0 c) 2 = nI (P c) ∧ 1 ≤ P c ∧ P c ≤ 9) (hm : G (sB 0) 3 = nI mm) (hkk : ∀ r, r < n → G (rN 0 r) 1 = 0 → k < 40) : kM l yX6_commit cX6_commit 3 (some .int) { frames := 4, cells := 0, slots := 0, locals := 106 } D τ ad [.ref (ad 7), .int x] G (fun v G' => rdP n x (v = -1 ∧ G' = G) (fun r => if G (rN 0 r) 1 = 0 then (if cn (cfF G 0 r) 12 ≠ 0 then v = -6 ∧ G' = G else if ¬ G (sB 0) 9 = 0 ∧ ¬ nI (cn (fun q => if skF (G (mC 0 q)) (G (rN 0 r)) then 1 else 0) k) ≤ 0 then v = -4 ∧ G' = G else if nI 40 < sm (ovF G 0 n r P) 12 then v = -3 ∧ G' = G else ∃ Gr G1 u, rcR G Gr pi L n k ∧ LNR Gr G1 0 k r mm P ∧ ruR (gs G1 (rN 0 r) 1 (nI 1)) G' 0 n (ppF Gr 0 r P) u ∧ v = G' (sB 0) 3) else v = -4 ∧ G' = G)) := by
  refine kMet (own := RX6) (by decide) rfl (Nat.le_of_ble_eq_true rfl) ?_
  intro p9 e9 s9 m9 args9 below9 meth9 c9 Q9 X hx hb hP hS hret ls hl
  have hPs := hP
  have hl : lv_has ls 3 [(0, .ref (ad 7)), (1, .int x)] := hl
  refine lv_aload_n hx hb dX6_commit_0 rfl (lv_at hl 0 rfl) ?_
  refine kget X hP oX g_X6_12 rfl dX6_commit_1 ?_
  refine lv_iload_n hx hb dX6_commit_4 rfl (lv_at hl 1 rfl) ?_
  refine kcV X hP hS (c_X4_hasReader l hI (j := 0) (by omega)) (oS (j := 0) (by omega)) v_X6_51 ⟨Nat.le_of_ble_eq_true rfl, Nat.le_of_ble_eq_true rfl, rfl, rfl⟩ rfl rfl (Nat.le_of_ble_eq_true rfl) hl.1 ⟨Nat.zero_le _, Nat.zero_le _⟩ dX6_commit_5 (fun r_5 G_5 H locs hR hP hS => ?_)
  obtain ⟨rfl, hG_5⟩ := hR
  rw [hG_5] at hP
  clear hG_5
  first
    | refine kif_ne (tgt := 13) hx hb dX6_commit_8 (by decide) (fun c_8 => ?_) (fun c_8 => ?_)
    | refine lv_if_ne (tgt := 13) hx hb dX6_commit_8 (by decide) (fun c_8 => ?_) (fun c_8 => ?_)
  · skip
    obtain ⟨r, hr, rfl⟩ := hsR_yes hn4 (by rw [hn] at c_8; exact c_8)
    refine lv_aload_n hx hb dX6_commit_13 rfl (lv_at hl 0 rfl) ?_
    refine kget X hP oX g_X6_12 rfl dX6_commit_14 ?_
    refine kget X hP (oS (j := 0) (by omega)) g_X6_55 rfl dX6_commit_17 ?_
    refine lv_iload_n hx hb dX6_commit_20 rfl (lv_at hl 1 rfl) ?_
    refine kaald X hP (qR (j := 0) (by omega)) (by omega) rfl dX6_commit_21 ?_
    refine kast hx hb dX6_commit_22 rfl hl (by decide) (kp_2_2 rfl) (fun ls hl => ?_)
    refine lv_aload_n hx hb dX6_commit_23 rfl (lv_at hl 2 rfl) ?_
    refine kcV X hP hS (c_X3_isOpen l hI (j := 0) (by omega) (by omega)) (oR (j := 0) (r := r) (by omega) (by omega)) v_X6_59 ⟨Nat.le_of_ble_eq_true rfl, Nat.le_of_ble_eq_true rfl, rfl, rfl⟩ rfl rfl (Nat.le_of_ble_eq_true rfl) hl.1 ⟨Nat.zero_le _, Nat.zero_le _⟩ dX6_commit_24 (fun r_24 G_24 H locs hR hP hS => ?_)
    obtain ⟨rfl, hG_24⟩ := hR
    rw [hG_24] at hP
    clear hG_24
    first
      | refine kif_ne (tgt := 33) hx hb dX6_commit_27 (by decide) (fun c_27 => ?_) (fun c_27 => ?_)
      | refine lv_if_ne (tgt := 33) hx hb dX6_commit_27 (by decide) (fun c_27 => ?_) (fun c_27 => ?_)
    · skip
      refine lv_aload_n hx hb dX6_commit_33 rfl (lv_at hl 0 rfl) ?_
      refine kget X hP oX g_X6_12 rfl dX6_commit_34 ?_
      refine lv_aload_n hx hb dX6_commit_37 rfl (lv_at hl 2 rfl) ?_
      refine kcV X hP hS (c_X4_hasConflict l hI (j := 0) (r := r) (by omega) (by omega)) (oS (j := 0) (by omega)) v_X6_130 ⟨Nat.le_of_ble_eq_true rfl, Nat.le_of_ble_eq_true rfl, rfl, rfl⟩ rfl rfl (Nat.le_of_ble_eq_true rfl) hl.1 ⟨Nat.zero_le _, Nat.zero_le _⟩ dX6_commit_38 (fun r_38 G_38 H locs hR hP hS => ?_)
      obtain ⟨rfl, hG_38⟩ := hR
      rw [hG_38] at hP
      clear hG_38
      first
        | refine kif_eq (tgt := 47) hx hb dX6_commit_41 (by decide) (fun c_41 => ?_) (fun c_41 => ?_)
        | refine lv_if_eq (tgt := 47) hx hb dX6_commit_41 (by decide) (fun c_41 => ?_) (fun c_41 => ?_)
      · skip
        refine lv_aload_n hx hb dX6_commit_47 rfl (lv_at hl 0 rfl) ?_
        refine kget X hP oX g_X6_12 rfl dX6_commit_48 ?_
        refine kget X hP (oS (j := 0) (by omega)) g_X6_89 rfl dX6_commit_51 ?_
        first
          | refine kif_eq (tgt := 71) hx hb dX6_commit_54 (by decide) (fun c_54 => ?_) (fun c_54 => ?_)
          | refine lv_if_eq (tgt := 71) hx hb dX6_commit_54 (by decide) (fun c_54 => ?_) (fun c_54 => ?_)
        · skip
          refine lv_aload_n hx hb dX6_commit_71 rfl (lv_at hl 0 rfl) ?_
          refine kget X hP oX g_X6_12 rfl dX6_commit_72 ?_
          refine lv_iload_n hx hb dX6_commit_75 rfl (lv_at hl 1 rfl) ?_
          refine kcV X hP hS (c_X4_oldVersionsWithout l hI (j := 0) (n := n) (r := r) (P := P) (by omega) hn hn4 hr (fun c hc => ⟨(hp c hc).1, by have := (hp c hc).2.2; omega⟩)) (oS (j := 0) (by omega)) v_X6_137 ⟨Nat.le_of_ble_eq_true rfl, Nat.le_of_ble_eq_true rfl, rfl, rfl⟩ rfl rfl (Nat.le_of_ble_eq_true rfl) hl.1 ⟨Nat.zero_le _, Nat.zero_le _⟩ dX6_commit_76 (fun r_76 G_76 H locs hR hP hS => ?_)
          obtain ⟨rfl, hG_76⟩ := hR
          rw [hG_76] at hP
          clear hG_76
          refine lv_bipush (v := nI 40) hx hb dX6_commit_79 (by decide) ?_
          first
            | refine kic_le (tgt := 87) hx hb dX6_commit_81 (by decide) (by with_reducible rfl) (by with_reducible rfl) (by omega) (by omega) (fun c_81 => ?_) (fun c_81 => ?_)
            | refine lv_icmp_le (tgt := 87) hx hb dX6_commit_81 (by decide) (fun c_81 => ?_) (fun c_81 => ?_)
          · skip
            refine lv_aload_n hx hb dX6_commit_87 rfl (lv_at hl 0 rfl) ?_
            refine kget X hP oX g_X6_25 rfl dX6_commit_88 ?_
            refine lv_aload_n hx hb dX6_commit_91 rfl (lv_at hl 0 rfl) ?_
            refine kget X hP oX g_X6_12 rfl dX6_commit_92 ?_
            refine kcVv X hP hS (c_X2_record l hI (j := 0) (n := n) (k := k) (L := L) (pi := pi) (by omega) hL hL4 hpi hne hn hn4 hk hk4 hz hy) oH v_X6_44 ⟨Nat.le_of_ble_eq_true rfl, Nat.le_of_ble_eq_true rfl, rfl, rfl⟩ rfl rfl (Nat.le_of_ble_eq_true rfl) hl.1 ⟨Nat.zero_le _, Nat.zero_le _⟩ dX6_commit_95 (fun G_95 H locs hR hP hS => ?_)
            have h_95 : rcR G G_95 pi L n k := hR
            have e0 := rcR_0 h_95 hL4 hne
            have er : G_95 (rN 0 r) = G (rN 0 r) := e0 _ (by unfold rN; omega) (by unfold rN; omega) (by unfold rN; omega)
            refine lv_aload_n hx hb dX6_commit_98 rfl (lv_at hl 0 rfl) ?_
            refine kget X hP oX g_X6_12 rfl dX6_commit_99 ?_
            refine lv_iload_n hx hb dX6_commit_102 rfl (lv_at hl 1 rfl) ?_
            refine kcVv X hP hS (c_X4_land l hI (j := 0) (n := n) (k := k) (r := r) (mm := mm) (P := P) (by omega) (by rw [e0 (sB 0) (by unfold sB; omega) (by unfold sB; omega) (by unfold sB; omega)]; exact hn) hn4 hr (by rw [e0 (sB 0) (by unfold sB; omega) (by unfold sB; omega) (by unfold sB; omega)]; exact hk) (hkk r hr c_27) (by rw [e0 (sB 0) (by unfold sB; omega) (by unfold sB; omega) (by unfold sB; omega)]; exact hm) (fun c hc => by rw [e0 (cB 0 c) (by unfold cB; omega) (by unfold cB; omega) (by unfold cB; omega)]; exact hp c hc)) (oS (j := 0) (by omega)) v_X6_140 ⟨Nat.le_of_ble_eq_true rfl, Nat.le_of_ble_eq_true rfl, rfl, rfl⟩ rfl rfl (Nat.le_of_ble_eq_true rfl) hl.1 ⟨Nat.zero_le _, Nat.zero_le _⟩ dX6_commit_103 (fun G_103 H locs hR hP hS => ?_)
            obtain ⟨G1, u, h_1, h_2⟩ := hR
            refine lv_aload_n hx hb dX6_commit_106 rfl (lv_at hl 0 rfl) ?_
            refine kget X hP oX g_X6_12 rfl dX6_commit_107 ?_
            refine kget X hP (oS (j := 0) (by omega)) g_X6_144 rfl dX6_commit_110 ?_
            exact hret _ _ _ _ _ _ (rdP_h hr hn4 (by rw [if_pos c_27, if_neg c_41, if_neg (fun z => z.1 c_54), if_neg (Int32.not_lt.mpr c_81)]; exact ⟨_, G1, u, h_95, h_1, h_2, rfl⟩)) hP hS dX6_commit_113
          · skip
            refine lv_bipush (v := (-3)) hx hb dX6_commit_84 (by decide) ?_
            exact hret _ _ _ _ _ _ (rdP_h hr hn4 (by rw [if_pos c_27, if_neg c_41, if_neg (fun z => z.1 c_54), if_pos (Int32.not_le.mp c_81)]; exact ⟨rfl, rfl⟩)) hP hS dX6_commit_86
        · skip
          refine lv_aload_n hx hb dX6_commit_57 rfl (lv_at hl 0 rfl) ?_
          refine kget X hP oX g_X6_12 rfl dX6_commit_58 ?_
          refine lv_aload_n hx hb dX6_commit_61 rfl (lv_at hl 2 rfl) ?_
          refine kcV X hP hS (c_X4_skewsOf l hI (j := 0) (k := k) (r := r) (by omega) hk hk4 (by omega)) (oS (j := 0) (by omega)) v_X6_134 ⟨Nat.le_of_ble_eq_true rfl, Nat.le_of_ble_eq_true rfl, rfl, rfl⟩ rfl rfl (Nat.le_of_ble_eq_true rfl) hl.1 ⟨Nat.zero_le _, Nat.zero_le _⟩ dX6_commit_62 (fun r_62 G_62 H locs hR hP hS => ?_)
          obtain ⟨rfl, hG_62⟩ := hR
          rw [hG_62] at hP
          clear hG_62
          refine lv_if_le (tgt := 71) hx hb dX6_commit_65 (by decide) (fun c_65 => ?_) (fun c_65 => ?_)
          · skip
            refine lv_aload_n hx hb dX6_commit_71 rfl (lv_at hl 0 rfl) ?_
            refine kget X hP oX g_X6_12 rfl dX6_commit_72 ?_
            refine lv_iload_n hx hb dX6_commit_75 rfl (lv_at hl 1 rfl) ?_
            refine kcV X hP hS (c_X4_oldVersionsWithout l hI (j := 0) (n := n) (r := r) (P := P) (by omega) hn hn4 hr (fun c hc => ⟨(hp c hc).1, by have := (hp c hc).2.2; omega⟩)) (oS (j := 0) (by omega)) v_X6_137 ⟨Nat.le_of_ble_eq_true rfl, Nat.le_of_ble_eq_true rfl, rfl, rfl⟩ rfl rfl (Nat.le_of_ble_eq_true rfl) hl.1 ⟨Nat.zero_le _, Nat.zero_le _⟩ dX6_commit_76 (fun r_76 G_76 H locs hR hP hS => ?_)
            obtain ⟨rfl, hG_76⟩ := hR
            rw [hG_76] at hP
            clear hG_76
            refine lv_bipush (v := nI 40) hx hb dX6_commit_79 (by decide) ?_
            first
              | refine kic_le (tgt := 87) hx hb dX6_commit_81 (by decide) (by with_reducible rfl) (by with_reducible rfl) (by omega) (by omega) (fun c_81 => ?_) (fun c_81 => ?_)
              | refine lv_icmp_le (tgt := 87) hx hb dX6_commit_81 (by decide) (fun c_81 => ?_) (fun c_81 => ?_)
            · skip
              refine lv_aload_n hx hb dX6_commit_87 rfl (lv_at hl 0 rfl) ?_
              refine kget X hP oX g_X6_25 rfl dX6_commit_88 ?_
              refine lv_aload_n hx hb dX6_commit_91 rfl (lv_at hl 0 rfl) ?_
              refine kget X hP oX g_X6_12 rfl dX6_commit_92 ?_
              refine kcVv X hP hS (c_X2_record l hI (j := 0) (n := n) (k := k) (L := L) (pi := pi) (by omega) hL hL4 hpi hne hn hn4 hk hk4 hz hy) oH v_X6_44 ⟨Nat.le_of_ble_eq_true rfl, Nat.le_of_ble_eq_true rfl, rfl, rfl⟩ rfl rfl (Nat.le_of_ble_eq_true rfl) hl.1 ⟨Nat.zero_le _, Nat.zero_le _⟩ dX6_commit_95 (fun G_95 H locs hR hP hS => ?_)
              have h_95 : rcR G G_95 pi L n k := hR
              have e0 := rcR_0 h_95 hL4 hne
              have er : G_95 (rN 0 r) = G (rN 0 r) := e0 _ (by unfold rN; omega) (by unfold rN; omega) (by unfold rN; omega)
              refine lv_aload_n hx hb dX6_commit_98 rfl (lv_at hl 0 rfl) ?_
              refine kget X hP oX g_X6_12 rfl dX6_commit_99 ?_
              refine lv_iload_n hx hb dX6_commit_102 rfl (lv_at hl 1 rfl) ?_
              refine kcVv X hP hS (c_X4_land l hI (j := 0) (n := n) (k := k) (r := r) (mm := mm) (P := P) (by omega) (by rw [e0 (sB 0) (by unfold sB; omega) (by unfold sB; omega) (by unfold sB; omega)]; exact hn) hn4 hr (by rw [e0 (sB 0) (by unfold sB; omega) (by unfold sB; omega) (by unfold sB; omega)]; exact hk) (hkk r hr c_27) (by rw [e0 (sB 0) (by unfold sB; omega) (by unfold sB; omega) (by unfold sB; omega)]; exact hm) (fun c hc => by rw [e0 (cB 0 c) (by unfold cB; omega) (by unfold cB; omega) (by unfold cB; omega)]; exact hp c hc)) (oS (j := 0) (by omega)) v_X6_140 ⟨Nat.le_of_ble_eq_true rfl, Nat.le_of_ble_eq_true rfl, rfl, rfl⟩ rfl rfl (Nat.le_of_ble_eq_true rfl) hl.1 ⟨Nat.zero_le _, Nat.zero_le _⟩ dX6_commit_103 (fun G_103 H locs hR hP hS => ?_)
              obtain ⟨G1, u, h_1, h_2⟩ := hR
              refine lv_aload_n hx hb dX6_commit_106 rfl (lv_at hl 0 rfl) ?_
              refine kget X hP oX g_X6_12 rfl dX6_commit_107 ?_
              refine kget X hP (oS (j := 0) (by omega)) g_X6_144 rfl dX6_commit_110 ?_
              exact hret _ _ _ _ _ _ (rdP_h hr hn4 (by rw [if_pos c_27, if_neg c_41, if_neg (fun z => z.2 c_65), if_neg (Int32.not_lt.mpr c_81)]; exact ⟨_, G1, u, h_95, h_1, h_2, rfl⟩)) hP hS dX6_commit_113
            · skip
              refine lv_bipush (v := (-3)) hx hb dX6_commit_84 (by decide) ?_
              exact hret _ _ _ _ _ _ (rdP_h hr hn4 (by rw [if_pos c_27, if_neg c_41, if_neg (fun z => z.2 c_65), if_pos (Int32.not_le.mp c_81)]; exact ⟨rfl, rfl⟩)) hP hS dX6_commit_86
          · skip
            refine lv_bipush (v := (-4)) hx hb dX6_commit_68 (by decide) ?_
            exact hret _ _ _ _ _ _ (rdP_h hr hn4 (by rw [if_pos c_27, if_neg c_41, if_pos ⟨c_54, c_65⟩]; exact ⟨rfl, rfl⟩)) hP hS dX6_commit_70
      · skip
        refine lv_bipush (v := (-6)) hx hb dX6_commit_44 (by decide) ?_
        exact hret _ _ _ _ _ _ (rdP_h hr hn4 (by rw [if_pos c_27, if_pos c_41]; exact ⟨rfl, rfl⟩)) hP hS dX6_commit_46
    · skip
      refine lv_bipush (v := (-4)) hx hb dX6_commit_30 (by decide) ?_
      exact hret _ _ _ _ _ _ (rdP_h hr hn4 (by rw [if_neg c_27]; exact ⟨rfl, rfl⟩)) hP hS dX6_commit_32
  · skip
    have hms := hsR_no hn4 (by rw [hn] at c_8; exact c_8)
    refine lv_iconst (v := (-1)) hx hb dX6_commit_11 (by decide) ?_
    exact hret _ _ _ _ _ _ (rdP_m hms ⟨rfl, rfl⟩) hP hS dX6_commit_12

set_option maxHeartbeats 4000000 in
set_option maxRecDepth 100000 in
theorem c_X6_version (l : Launch) {D : va_G} {τ : Nat → ClassId} {ad : Nat → Nat} (hI : kInj ad) {G : Nat → Nat → Int32} {n : Nat} {P : Nat → Nat} {x p y : Int32} (hn : G (sB 0) 6 = nI n) (hn4 : n ≤ 40)  (hp : ∀ c, c < 12 → G (cB 0 c) 2 = nI (P c) ∧ 1 ≤ P c ∧ P c ≤ 10) : kM l yX6_version cX6_version 5 (some .int) { frames := 3, cells := 0, slots := 0, locals := 70 } D τ ad [.ref (ad 7), .int x, .int p, .int y] G (fun v G' => G' = G ∧ rdP 12 x (v = -1) (fun c => if ¬ p < 0 ∧ (nI 0 ≤ y ∧ y ≤ nI 4) then (if nI (P c) ≤ p then v = -5 else v = vrC G n c (P c) p y) else v = -2)) := by
  refine kMet (own := RX6) (by decide) rfl (Nat.le_of_ble_eq_true rfl) ?_
  intro p9 e9 s9 m9 args9 below9 meth9 c9 Q9 X hx hb hP hS hret ls hl
  have hPs := hP
  have hl : lv_has ls 5 [(0, .ref (ad 7)), (1, .int x), (2, .int p), (3, .int y)] := hl
  refine lv_iload_n hx hb dX6_version_0 rfl (lv_at hl 1 rfl) ?_
  refine kcS X hP hS (c_X6_isCell l hI) v_X6_99 ⟨Nat.le_of_ble_eq_true rfl, Nat.le_of_ble_eq_true rfl, rfl, rfl⟩ rfl rfl (Nat.le_of_ble_eq_true rfl) hl.1 ⟨Nat.zero_le _, Nat.zero_le _⟩ dX6_version_1 (fun r_1 G_1 H locs hR hP hS => ?_)
  obtain ⟨rfl, hG_1⟩ := hR
  rw [hG_1] at hP
  clear hG_1
  first
    | refine kif_ne (tgt := 9) hx hb dX6_version_4 (by decide) (fun c_4 => ?_) (fun c_4 => ?_)
    | refine lv_if_ne (tgt := 9) hx hb dX6_version_4 (by decide) (fun c_4 => ?_) (fun c_4 => ?_)
  · skip
    obtain ⟨c, hc, rfl⟩ := hsR_yes (n := 12) (by omega) c_4
    refine lv_iload_n hx hb dX6_version_9 rfl (lv_at hl 2 rfl) ?_
    refine lv_if_lt (tgt := 22) hx hb dX6_version_10 (by decide) (fun c_10 => ?_) (fun c_10 => ?_)
    · skip
      refine lv_bipush (v := (-2)) hx hb dX6_version_22 (by decide) ?_
      exact hret _ _ _ _ _ _ (⟨rfl, rdP_h hc (by omega) (by rw [if_neg (fun z => absurd c_10 z.1)])⟩) hP hS dX6_version_24
    · skip
      refine lv_iload_n hx hb dX6_version_13 rfl (lv_at hl 3 rfl) ?_
      refine lv_if_lt (tgt := 22) hx hb dX6_version_14 (by decide) (fun c_14 => ?_) (fun c_14 => ?_)
      · skip
        refine lv_bipush (v := (-2)) hx hb dX6_version_22 (by decide) ?_
        exact hret _ _ _ _ _ _ (⟨rfl, rdP_h hc (by omega) (by rw [if_neg (fun z => absurd c_14 (Int32.not_lt.mpr z.2.1))])⟩) hP hS dX6_version_24
      · skip
        refine lv_iload_n hx hb dX6_version_17 rfl (lv_at hl 3 rfl) ?_
        refine lv_iconst (v := nI 4) hx hb dX6_version_18 (by decide) ?_
        first
          | refine kic_le (tgt := 25) hx hb dX6_version_19 (by decide) (by with_reducible rfl) (by with_reducible rfl) (by omega) (by omega) (fun c_19 => ?_) (fun c_19 => ?_)
          | refine lv_icmp_le (tgt := 25) hx hb dX6_version_19 (by decide) (fun c_19 => ?_) (fun c_19 => ?_)
        · skip
          refine lv_aload_n hx hb dX6_version_25 rfl (lv_at hl 0 rfl) ?_
          refine kget X hP oX g_X6_12 rfl dX6_version_26 ?_
          refine kget X hP (oS (j := 0) (by omega)) g_X6_112 rfl dX6_version_29 ?_
          refine lv_iload_n hx hb dX6_version_32 rfl (lv_at hl 1 rfl) ?_
          refine kaald X hP (qC (j := 0) (by omega)) (by omega) rfl dX6_version_33 ?_
          refine kastW hx hb dX6_version_34 hl (by decide) (kp_4_4 rfl) (fun ls hl => ?_)
          refine lv_iload_n hx hb dX6_version_36 rfl (lv_at hl 2 rfl) ?_
          refine lv_aload hx hb dX6_version_37 (lv_at hl 4 rfl) ?_
          refine kget X hP (oC (j := 0) (c := c) (by omega) hc) g_X6_179 (congrArg (fun z => some (Value.int z)) (hp c hc).1) dX6_version_39 ?_
          first
            | refine kic_lt (tgt := 48) hx hb dX6_version_42 (by decide) (by with_reducible rfl) (by with_reducible rfl) (by omega) (by omega) (fun c_42 => ?_) (fun c_42 => ?_)
            | refine lv_icmp_lt (tgt := 48) hx hb dX6_version_42 (by decide) (fun c_42 => ?_) (fun c_42 => ?_)
          · skip
            have hp0 : ¬ p < 0 := c_10
            have hy0 : nI 0 ≤ y ∧ y ≤ nI 4 := ⟨Int32.not_lt.mp c_14, c_19⟩
            obtain ⟨q, hq32, rfl⟩ := nI_of c_10
            have hq : q < P c := (nI_ltI hq32 (by have := (hp c hc).2.2; omega)).mp c_42
            refine lv_iload_n hx hb dX6_version_48 rfl (lv_at hl 3 rfl) ?_
            by_cases q_0 : y = nI 0
            · skip
              subst q_0
              refine lv_tableIn (off := 31) (tgt := 80) hx hb dX6_version_49 (by decide) (by decide) rfl (by decide) ?_
              refine lv_aload hx hb dX6_version_80 (lv_at hl 4 rfl) ?_
              refine kget X hP (oC (j := 0) (c := c) (by omega) hc) g_X6_175 rfl dX6_version_82 ?_
              refine lv_iload_n hx hb dX6_version_85 rfl (lv_at hl 2 rfl) ?_
              refine kiald X hP (aV (j := 0) (c := c) (by omega) hc) (by have := (hp c hc).2.2; omega) dX6_version_86 ?_
              exact hret _ _ _ _ _ _ (⟨rfl, rdP_h hc (by omega) (by rw [if_pos ⟨hp0, hy0⟩, if_neg (nI_ge hq (by have := (hp c hc).2.2; omega)), vrC, if_pos (rfl : nI 0 = nI 0), nI_clamp (by have := (hp c hc).2.2; omega)])⟩) hP hS dX6_version_87
            by_cases q_1 : y = nI 1
            · skip
              subst q_1
              refine lv_tableIn (off := 39) (tgt := 88) hx hb dX6_version_49 (by decide) (by decide) rfl (by decide) ?_
              refine lv_aload hx hb dX6_version_88 (lv_at hl 4 rfl) ?_
              refine kget X hP (oC (j := 0) (c := c) (by omega) hc) g_X6_176 rfl dX6_version_90 ?_
              refine lv_iload_n hx hb dX6_version_93 rfl (lv_at hl 2 rfl) ?_
              refine kiald X hP (aM (j := 0) (c := c) (by omega) hc) (by have := (hp c hc).2.2; omega) dX6_version_94 ?_
              exact hret _ _ _ _ _ _ (⟨rfl, rdP_h hc (by omega) (by rw [if_pos ⟨hp0, hy0⟩, if_neg (nI_ge hq (by have := (hp c hc).2.2; omega)), vrC, if_neg q_0, if_pos (rfl : nI 1 = nI 1), nI_clamp (by have := (hp c hc).2.2; omega)])⟩) hP hS dX6_version_95
            by_cases q_2 : y = nI 2
            · skip
              subst q_2
              refine lv_tableIn (off := 47) (tgt := 96) hx hb dX6_version_49 (by decide) (by decide) rfl (by decide) ?_
              refine lv_aload_n hx hb dX6_version_96 rfl (lv_at hl 0 rfl) ?_
              refine kget X hP oX g_X6_12 rfl dX6_version_97 ?_
              refine lv_aload hx hb dX6_version_100 (lv_at hl 4 rfl) ?_
              refine lv_iload_n hx hb dX6_version_102 rfl (lv_at hl 2 rfl) ?_
              refine kcV X hP hS (c_X4_seersOf l hI (j := 0) (n := n) (c := c) (P := P c) (by omega) hn hn4 hc (hp c hc).1 (hp c hc).2.2) (oS (j := 0) (by omega)) v_X6_182 ⟨Nat.le_of_ble_eq_true rfl, Nat.le_of_ble_eq_true rfl, rfl, rfl⟩ rfl rfl (Nat.le_of_ble_eq_true rfl) hl.1 ⟨Nat.zero_le _, Nat.zero_le _⟩ dX6_version_103 (fun r_103 G_103 H locs hR hP hS => ?_)
              obtain ⟨rfl, hG_103⟩ := hR
              rw [hG_103] at hP
              clear hG_103
              exact hret _ _ _ _ _ _ (⟨rfl, rdP_h hc (by omega) (by rw [if_pos ⟨hp0, hy0⟩, if_neg (nI_ge hq (by have := (hp c hc).2.2; omega)), vrC, if_neg q_0, if_neg q_1, if_pos (rfl : nI 2 = nI 2)])⟩) hP hS dX6_version_106
            by_cases q_3 : y = nI 3
            · skip
              subst q_3
              refine lv_tableIn (off := 58) (tgt := 107) hx hb dX6_version_49 (by decide) (by decide) rfl (by decide) ?_
              refine lv_aload_n hx hb dX6_version_107 rfl (lv_at hl 0 rfl) ?_
              refine kget X hP oX g_X6_12 rfl dX6_version_108 ?_
              refine lv_aload hx hb dX6_version_111 (lv_at hl 4 rfl) ?_
              refine lv_iload_n hx hb dX6_version_113 rfl (lv_at hl 2 rfl) ?_
              refine kcV X hP hS (c_X4_payersOf l hI (j := 0) (n := n) (c := c) (P := P c) (by omega) hn hn4 hc (hp c hc).1 (hp c hc).2.2) (oS (j := 0) (by omega)) v_X6_189 ⟨Nat.le_of_ble_eq_true rfl, Nat.le_of_ble_eq_true rfl, rfl, rfl⟩ rfl rfl (Nat.le_of_ble_eq_true rfl) hl.1 ⟨Nat.zero_le _, Nat.zero_le _⟩ dX6_version_114 (fun r_114 G_114 H locs hR hP hS => ?_)
              obtain ⟨rfl, hG_114⟩ := hR
              rw [hG_114] at hP
              clear hG_114
              exact hret _ _ _ _ _ _ (⟨rfl, rdP_h hc (by omega) (by rw [if_pos ⟨hp0, hy0⟩, if_neg (nI_ge hq (by have := (hp c hc).2.2; omega)), vrC, if_neg q_0, if_neg q_1, if_neg q_2, if_pos (rfl : nI 3 = nI 3)])⟩) hP hS dX6_version_117
            refine lv_tableOut (tgt := 118) hx hb dX6_version_49 (tb_out 3 (by decide) (fun i hi => by
                rcases (show i = 0 ∨ i = 1 ∨ i = 2 ∨ i = 3 by omega) with rfl | rfl | rfl | rfl <;> assumption)) (by decide) ?_
            refine lv_aload_n hx hb dX6_version_118 rfl (lv_at hl 0 rfl) ?_
            refine kget X hP oX g_X6_12 rfl dX6_version_119 ?_
            refine lv_aload hx hb dX6_version_122 (lv_at hl 4 rfl) ?_
            refine lv_iload_n hx hb dX6_version_124 rfl (lv_at hl 2 rfl) ?_
            refine kcV X hP hS (c_X4_shareOf l hI (j := 0) (n := n) (c := c) (P := P c) (by omega) hn hn4 hc (hp c hc).1 (hp c hc).2.2) (oS (j := 0) (by omega)) v_X6_192 ⟨Nat.le_of_ble_eq_true rfl, Nat.le_of_ble_eq_true rfl, rfl, rfl⟩ rfl rfl (Nat.le_of_ble_eq_true rfl) hl.1 ⟨Nat.zero_le _, Nat.zero_le _⟩ dX6_version_125 (fun r_125 G_125 H locs hR hP hS => ?_)
            obtain ⟨rfl, hG_125⟩ := hR
            rw [hG_125] at hP
            clear hG_125
            exact hret _ _ _ _ _ _ (⟨rfl, rdP_h hc (by omega) (by rw [if_pos ⟨hp0, hy0⟩, if_neg (nI_ge hq (by have := (hp c hc).2.2; omega)), vrC, if_neg q_0, if_neg q_1, if_neg q_2, if_neg q_3])⟩) hP hS dX6_version_128
          · skip
            refine lv_bipush (v := (-5)) hx hb dX6_version_45 (by decide) ?_
            exact hret _ _ _ _ _ _ (⟨rfl, rdP_h hc (by omega) (by rw [if_pos ⟨c_10, Int32.not_lt.mp c_14, c_19⟩, if_pos (Int32.not_lt.mp c_42)])⟩) hP hS dX6_version_47
        · skip
          refine lv_bipush (v := (-2)) hx hb dX6_version_22 (by decide) ?_
          exact hret _ _ _ _ _ _ (⟨rfl, rdP_h hc (by omega) (by rw [if_neg (fun z => absurd z.2.2 c_19)])⟩) hP hS dX6_version_24
  · skip
    have hmc := hsR_no (n := 12) (by omega) c_4
    refine lv_iconst (v := (-1)) hx hb dX6_version_7 (by decide) ?_
    exact hret _ _ _ _ _ _ (⟨rfl, rdP_m hmc rfl⟩) hP hS dX6_version_8

set_option maxHeartbeats 4000000 in
set_option maxRecDepth 100000 in
theorem c_X6_tick (l : Launch) {D : va_G} {τ : Nat → ClassId} {ad : Nat → Nat} (hI : kInj ad) {G : Nat → Nat → Int32} {n k L : Nat} {y : Int32} {pi : Nat → Nat} (hL : G 8 1 = nI L) (hL4 : L ≤ 4) (hpi : ∀ t, t < 4 → G 9 t = nI (pi t) ∧ pi t < 7) (hne : ∀ t, t < 4 → pi t ≠ 0) (hn : G (sB 0) 6 = nI n) (hn4 : n ≤ 40) (hk : G (sB 0) 7 = nI k) (hk4 : k ≤ 40) (hz : ∀ r, r < n → G (rN 0 r) 8 = 0 ∨ G (rN 0 r) 8 = 1) (hy : G (sB 0) 9 = 0 ∨ G (sB 0) 9 = 1) (Z Y : (Nat → Nat → Int32) → Nat → Int32 → (Nat → Nat → Int32) → Prop) (hw : ∀ Gr i dc G1, Z Gr i dc G1 → ∃ P, PLS G1 0 n P) (hs : ∀ Gr i dc dc' G1 G2 P, Z Gr i dc G1 → PLS G1 0 n P → TKS G1 G2 0 n P dc dc' → Y Gr (i + 1) dc' G2) (hzz : ∀ Gr i dc G1, Y Gr i dc G1 → Z Gr i dc G1) (h0 : ∀ Gr, rcR G Gr pi L n k → Z Gr 0 (nI 1) Gr) : kM l yX6_tick cX6_tick 3 (some .int) { frames := 6, cells := 0, slots := 0, locals := 140 } D τ ad [.ref (ad 7), .int y] G (fun v G' => if nI 1 ≤ y ∧ y ≤ nI 60 then ∃ Gr dc, rcR G Gr pi L n k ∧ Z Gr y.toNatClampNeg dc G' ∧ v = nI (cn (fun i => if G' (rN 0 i) 1 = nI 3 then 1 else 0) n) - nI (cn (fun i => if Gr (rN 0 i) 1 = nI 3 then 1 else 0) n) else v = -2 ∧ G' = G) := by
  refine kMet (own := RX6) (by decide) rfl (Nat.le_of_ble_eq_true rfl) ?_
  intro p9 e9 s9 m9 args9 below9 meth9 c9 Q9 X hx hb hP hS hret ls hl
  have hPs := hP
  have hl : lv_has ls 3 [(0, .ref (ad 7)), (1, .int y)] := hl
  refine lv_iload_n hx hb dX6_tick_0 rfl (lv_at hl 1 rfl) ?_
  refine lv_iconst (v := nI 1) hx hb dX6_tick_1 (by decide) ?_
  first
    | refine kic_lt (tgt := 11) hx hb dX6_tick_2 (by decide) (by with_reducible rfl) (by with_reducible rfl) (by omega) (by omega) (fun c_2 => ?_) (fun c_2 => ?_)
    | refine lv_icmp_lt (tgt := 11) hx hb dX6_tick_2 (by decide) (fun c_2 => ?_) (fun c_2 => ?_)
  · skip
    refine lv_bipush (v := (-2)) hx hb dX6_tick_11 (by decide) ?_
    exact hret _ _ _ _ _ _ (by rw [if_neg (fun z => Int32.not_lt.mpr z.1 c_2)]; exact ⟨rfl, rfl⟩) hP hS dX6_tick_13
  · skip
    refine lv_iload_n hx hb dX6_tick_5 rfl (lv_at hl 1 rfl) ?_
    refine lv_bipush (v := nI 60) hx hb dX6_tick_6 (by decide) ?_
    first
      | refine kic_le (tgt := 14) hx hb dX6_tick_8 (by decide) (by with_reducible rfl) (by with_reducible rfl) (by omega) (by omega) (fun c_8 => ?_) (fun c_8 => ?_)
      | refine lv_icmp_le (tgt := 14) hx hb dX6_tick_8 (by decide) (fun c_8 => ?_) (fun c_8 => ?_)
    · skip
      obtain ⟨K, hK32, rfl⟩ := nI_of (x := y) (fun z => Int32.not_le.mpr (Int32.lt_trans z (by decide)) (Int32.not_lt.mp c_2))
      have hK6 : K ≤ 60 := (nI_leI hK32 (by omega)).mp c_8
      refine lv_aload_n hx hb dX6_tick_14 rfl (lv_at hl 0 rfl) ?_
      refine kget X hP oX g_X6_25 rfl dX6_tick_15 ?_
      refine lv_aload_n hx hb dX6_tick_18 rfl (lv_at hl 0 rfl) ?_
      refine kget X hP oX g_X6_12 rfl dX6_tick_19 ?_
      refine kcVv X hP hS (c_X2_record l hI (j := 0) (n := n) (k := k) (L := L) (pi := pi) (by omega) hL hL4 hpi hne hn hn4 hk hk4 hz hy) oH v_X6_44 ⟨Nat.le_of_ble_eq_true rfl, Nat.le_of_ble_eq_true rfl, rfl, rfl⟩ rfl rfl (Nat.le_of_ble_eq_true rfl) hl.1 ⟨Nat.zero_le _, Nat.zero_le _⟩ dX6_tick_22 (fun G_22 H locs hR hP hS => ?_)
      have h_22 : rcR G G_22 pi L n k := hR
      have e0 := rcR_0 h_22 hL4 hne
      refine lv_aload_n hx hb dX6_tick_25 rfl (lv_at hl 0 rfl) ?_
      refine kget X hP oX g_X6_12 rfl dX6_tick_26 ?_
      refine lv_iconst (v := nI 3) hx hb dX6_tick_29 (by decide) ?_
      refine kcV X hP hS (c_X4_readersIn l hI (j := 0) (n := n) (by omega) (by rw [e0 (sB 0) (by unfold sB; omega) (by unfold sB; omega) (by unfold sB; omega)]; exact hn) hn4) (oS (j := 0) (by omega)) v_X6_40 ⟨Nat.le_of_ble_eq_true rfl, Nat.le_of_ble_eq_true rfl, rfl, rfl⟩ rfl rfl (Nat.le_of_ble_eq_true rfl) hl.1 ⟨Nat.zero_le _, Nat.zero_le _⟩ dX6_tick_30 (fun r_30 G_30 H locs hR hP hS => ?_)
      obtain ⟨rfl, hG_30⟩ := hR
      rw [hG_30] at hP
      clear hG_30
      refine kist hx hb dX6_tick_33 rfl hl (by decide) (kp_2_2 rfl) (fun ls hl => ?_)
      refine lv_aload_n hx hb dX6_tick_34 rfl (lv_at hl 0 rfl) ?_
      refine kget X hP oX g_X6_12 rfl dX6_tick_35 ?_
      refine lv_iload_n hx hb dX6_tick_38 rfl (lv_at hl 1 rfl) ?_
      refine lv_iconst (v := (-1)) hx hb dX6_tick_39 (by decide) ?_
      refine kcVv X hP hS (c_X4_letTicksPass l hI (j := 0) (n := n) (K := K) (w := -1) (by omega) hn4 (by omega) (Z G_22) (Y G_22) (hw G_22) (fun i dc dc' G1 G2 P _ z1 z2 z3 => hs G_22 i dc dc' G1 G2 P z1 z2 z3) (fun i dc G1 z _ => hzz G_22 i dc G1 z) (h0 G_22 h_22)) (oS (j := 0) (by omega)) v_X6_95 ⟨Nat.le_of_ble_eq_true rfl, Nat.le_of_ble_eq_true rfl, rfl, rfl⟩ rfl rfl (Nat.le_of_ble_eq_true rfl) hl.1 ⟨Nat.zero_le _, Nat.zero_le _⟩ dX6_tick_40 (fun G_40 H locs hR hP hS => ?_)
      have h_40 : ∃ dc, Z G_22 K dc G_40 := by
        rcases hR with z | ⟨i, dc, r, z1, z2, z3, z4, z5⟩
        · exact z
        · exact absurd z4.symm (nI_m1 (by omega))
      obtain ⟨dc, h_40⟩ := h_40
      obtain ⟨P5, hP5⟩ := hw _ _ _ _ h_40
      have hn5 := hP5.1
      refine lv_aload_n hx hb dX6_tick_43 rfl (lv_at hl 0 rfl) ?_
      refine kget X hP oX g_X6_12 rfl dX6_tick_44 ?_
      refine lv_iconst (v := nI 3) hx hb dX6_tick_47 (by decide) ?_
      refine kcV X hP hS (c_X4_readersIn l hI (j := 0) (n := n) (by omega) hn5 hn4) (oS (j := 0) (by omega)) v_X6_40 ⟨Nat.le_of_ble_eq_true rfl, Nat.le_of_ble_eq_true rfl, rfl, rfl⟩ rfl rfl (Nat.le_of_ble_eq_true rfl) hl.1 ⟨Nat.zero_le _, Nat.zero_le _⟩ dX6_tick_48 (fun r_48 G_48 H locs hR hP hS => ?_)
      obtain ⟨rfl, hG_48⟩ := hR
      rw [hG_48] at hP
      clear hG_48
      refine lv_iload_n hx hb dX6_tick_51 rfl (lv_at hl 2 rfl) ?_
      refine lv_isub hx hb dX6_tick_52 ?_
      exact hret _ _ _ _ _ _ (by rw [if_pos ⟨Int32.not_lt.mp c_2, c_8⟩, nI_clamp hK32]; exact ⟨G_22, dc, h_22, h_40, rfl⟩) hP hS dX6_tick_53
    · skip
      refine lv_bipush (v := (-2)) hx hb dX6_tick_11 (by decide) ?_
      exact hret _ _ _ _ _ _ (by rw [if_neg (fun z => absurd z.2 c_8)]; exact ⟨rfl, rfl⟩) hP hS dX6_tick_13
