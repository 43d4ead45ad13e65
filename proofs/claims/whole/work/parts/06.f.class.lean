
def tfR (G G' : Nat → Nat → Int32) : Prop := (∀ k, k ≠ 10 → k ≠ 12 → k ≠ 13 → G' k = G k) ∧ G' 10 1 = G 10 1
theorem mxF_congr {C D : Nat → Int32} {w : Nat} (h : ∀ t, t < w → C t = D t) : mxF C w = mxF D w := by
  induction w with
  | zero => rfl
  | succ w ih => rw [mxF, mxF, ih (fun t ht => h t (by omega)), h w (by omega)]
/-- the writes of a text put into a reader of the class, the first of them -/
def wrC (G : Nat → Nat → Int32) (r : Nat) (S : Nat → Int32) (T : Nat) : Nat → Nat → Nat → Int32
  | 0 => G
  | i + 1 => gs (gs (wrC G r S T i) (rW 0 r) (wc S T i).toNatClampNeg (wv S T i)) (rN 0 r) 5 (wrC G r S T i (rN 0 r) 5 ||| bt (wc S T i).toNatClampNeg)
theorem wrC_o {G : Nat → Nat → Int32} {r : Nat} {S : Nat → Int32} {T q : Nat} (h1 : q ≠ rW 0 r) (h2 : q ≠ rN 0 r) (i : Nat) : wrC G r S T i q = G q := by
  induction i with
  | zero => rfl
  | succ i ih => rw [wrC, gs_other h2, gs_other h1, ih]
theorem mxF_cell {C : Nat → Int32} {w t : Nat} (ht : t < w) (h : ¬ nI 12 ≤ mxF C w) (h0 : 0 ≤ C t) : ∃ q, q < 12 ∧ C t = nI q := by
  have key : ∀ w, t < w → C t ≤ mxF C w := by
    intro w
    induction w with
    | zero => intro h; exact absurd h (by omega)
    | succ w ih =>
      intro hw
      rw [mxF]
      rcases Nat.lt_or_ge t w with q | q
      · split
        · rename_i z; exact Int32.le_trans (ih q) (Int32.le_of_lt z)
        · exact ih q
      · have e : t = w := by omega
        subst e
        split
        · exact Int32.le_refl _
        · rename_i z; exact Int32.not_lt.mp z
  exact hsR_yes (n := 12) (by omega) ⟨h0, Int32.lt_of_le_of_lt (key w ht) (Int32.not_le.mp h)⟩
theorem rnn_dg (S : Nat → Int32) (T : Nat) : ∀ k e i, e ≤ i → i < rnn S T e k → dgt S T i := by
  intro k
  induction k with
  | zero => intro e i h1 h2; rw [rnn] at h2; omega
  | succ k ih =>
    intro e i h1 h2
    rw [rnn] at h2
    by_cases h : dgt S T e
    · rw [if_pos h] at h2
      rcases Nat.lt_or_ge e i with q | q
      · exact ih (e + 1) i (by omega) h2
      · rw [show i = e by omega]; exact h
    · rw [if_neg h] at h2; omega
theorem nv_10 {S : Nat → Int32} {T a : Nat} (k : Nat) (h : ∀ i, i < k → dgt S T (a + i)) : nv S a k < 10 ^ k := by
  induction k with
  | zero => rw [nv]; omega
  | succ k ih =>
    obtain ⟨d, h1, h2, -⟩ := nv_d (h k (by omega))
    have := ih (fun i hi => h i (by omega))
    rw [h2, Nat.pow_succ]; omega
theorem wc_n (S : Nat → Int32) (T a : Nat) : ∃ q, q < 100 ∧ nmF S a (cE S T a - a) = nI q := by
  have hd : ∀ i, i < cE S T a - a → dgt S T (a + i) := fun i hi => rnn_dg S T _ a (a + i) (by omega) (show a + i < cE S T a by omega)
  have hb := rnn_b S T (if sgn S T a 48 then 1 else 2) a
  have hle : cE S T a - a ≤ 2 := by
    have h3 : cE S T a ≤ a + (if sgn S T a 48 then 1 else 2) := hb.2.2
    split at h3 <;> omega
  refine ⟨_, ?_, nmF_nv _ hd⟩
  exact Nat.lt_of_lt_of_le (nv_10 _ hd) (Nat.le_trans (Nat.pow_le_pow_right (by omega) hle) (by omega))
theorem wc_0 {S : Nat → Int32} {T t : Nat} : 0 ≤ wc S T t := by
  obtain ⟨q, h1, h2⟩ := wc_n S T (pA S T t)
  rw [wc, h2]
  exact nI_pos' (by omega)
def vrC (G : Nat → Nat → Int32) (n c P : Nat) (p y : Int32) : Int32 := if y = nI 0 then G (cV 0 c) p.toNatClampNeg else if y = nI 1 then G (cM 0 c) p.toNatClampNeg else if y = nI 2 then nI (cn (fun i => if G (rN 0 i) 1 = 0 ∧ pf (G (cM 0 c)) (G (rN 0 i) 2) 0 P = p then 1 else 0) n) else if y = nI 3 then nI (cn (fun i => if (G (rN 0 i) 1 = 0 ∧ G (rN 0 i) 6 = 0) ∧ pf (G (cM 0 c)) (G (rN 0 i) 2) 0 P = p then 1 else 0) n) else shF G 0 n c P p
theorem rcR_k {G Gr : Nat → Nat → Int32} {pi : Nat → Nat} {L n k : Nat} (h : rcR G Gr pi L n k) (hL4 : L ≤ 4) (hne : ∀ t, t < 4 → pi t ≠ 0) {P : Nat → Nat} (hn : G (sB 0) 6 = nI n) (hp : ∀ c, c < 12 → G (cB 0 c) 2 = nI (P c) ∧ 1 ≤ P c ∧ P c ≤ 10) : PLS Gr 0 n P := by
  have e0 := rcR_0 h hL4 hne
  refine ⟨by rw [e0 _ (by unfold sB; omega) (by unfold sB; omega) (by unfold sB; omega)]; exact hn, fun c hc => ?_⟩
  rw [e0 _ (by unfold cB; omega) (by unfold cB; omega) (by unfold cB; omega)]
  exact hp c hc
set_option maxHeartbeats 4000000 in
set_option maxRecDepth 100000 in
theorem c_X6_commit (l : Launch) {D : va_G} {τ : Nat → ClassId} {ad : Nat → Nat} (hI : kInj ad) {G : Nat → Nat → Int32} {n k L : Nat} {mm : Nat} {x : Int32} {pi : Nat → Nat} (hL : G 8 1 = nI L) (hL4 : L ≤ 4) (hpi : ∀ t, t < 4 → G 9 t = nI (pi t) ∧ pi t < 7) (hne : ∀ t, t < 4 → pi t ≠ 0) (hn : G (sB 0) 6 = nI n) (hn4 : n ≤ 40) (hk : G (sB 0) 7 = nI k) (hk4 : k ≤ 40) (hz : ∀ r, r < n → G (rN 0 r) 8 = 0 ∨ G (rN 0 r) 8 = 1) (hy : G (sB 0) 9 = 0 ∨ G (sB 0) 9 = 1) {P : Nat → Nat} (hp : ∀ c, c < 12 → G (cB 0 c) 2 = nI (P c) ∧ 1 ≤ P c ∧ P c ≤ 9) (hm : G (sB 0) 3 = nI mm) (hkk : ∀ r, r < n → G (rN 0 r) 1 = 0 → k < 40) : kM l yX6_commit cX6_commit 3 (some .int) { frames := 4, cells := 0, slots := 0, locals := 106 } D τ ad [.ref (ad 7), .int x] G (fun v G' => rdP n x (v = -1 ∧ G' = G) (fun r => if G (rN 0 r) 1 = 0 then (if cn (cfF G 0 r) 12 ≠ 0 then v = -6 ∧ G' = G else if ¬ G (sB 0) 9 = 0 ∧ ¬ nI (cn (fun q => if skF (G (mC 0 q)) (G (rN 0 r)) then 1 else 0) k) ≤ 0 then v = -4 ∧ G' = G else if nI 40 < sm (ovF G 0 n r P) 12 then v = -3 ∧ G' = G else ∃ Gr G1 u, rcR G Gr pi L n k ∧ LNR Gr G1 0 k r mm P ∧ ruR (gs G1 (rN 0 r) 1 (nI 1)) G' 0 n (ppF Gr 0 r P) u ∧ v = G' (sB 0) 3) else v = -4 ∧ G' = G)) := by
  refine kMet (own := RX6) (by decide) rfl (Nat.le_of_ble_eq_true rfl) ?_
  intro p9 e9 s9 m9 args9 below9 meth9 c9 Q9 X hx hb hP hS hret ls hl
  have hPs := hP
  have hl : lv_has ls 3 [(0, .ref (ad 7)), (1, .int x)] := hl
  refine lv_aload_n hx hb dX6_commit_0 rfl (lv_at hl 0 rfl) ?_
  refine kget X hP oX g_X6_12 rfl dX6_commit_1 ?_
  refine lv_iload_n hx hb dX6_commit_4 rfl (lv_at hl 1 rfl) ?_
  refine kcV X hP hS (c_X4_hasReader l hI (j := 0) (by omega)) (oS (j := 0) (by omega)) v_X6_51 ⟨Nat.le_of_ble_eq_true rfl, Nat.le_of_ble_eq_true rfl, rfl, rfl⟩ rfl rfl (Nat.le_of_ble_eq_true rfl) hl.1 ⟨Nat.zero_le _, Nat.zero_le _⟩ dX6_commit_5 (fun r_5 G_5 H locs hR hP hS => ?_)
  obtain ⟨rfl, hG_5⟩ := hR
  rw [hG_5] at hP
  clear hG_5
  first
    | refine kif_ne (tgt := 13) hx hb dX6_commit_8 (by decide) (fun c_8 => ?_) (fun c_8 => ?_)
    | refine lv_if_ne (tgt := 13) hx hb dX6_commit_8 (by decide) (fun c_8 => ?_) (fun c_8 => ?_)
  · skip
    obtain ⟨r, hr, rfl⟩ := hsR_yes hn4 (by rw [hn] at c_8; exact c_8)
    refine lv_aload_n hx hb dX6_commit_13 rfl (lv_at hl 0 rfl) ?_
    refine kget X hP oX g_X6_12 rfl dX6_commit_14 ?_
    refine kget X hP (oS (j := 0) (by omega)) g_X6_55 rfl dX6_commit_17 ?_
    refine lv_iload_n hx hb dX6_commit_20 rfl (lv_at hl 1 rfl) ?_
    refine kaald X hP (qR (j := 0) (by omega)) (by omega) rfl dX6_commit_21 ?_
    refine kast hx hb dX6_commit_22 rfl hl (by decide) (kp_2_2 rfl) (fun ls hl => ?_)
    refine lv_aload_n hx hb dX6_commit_23 rfl (lv_at hl 2 rfl) ?_
    refine kcV X hP hS (c_X3_isOpen l hI (j := 0) (by omega) (by omega)) (oR (j := 0) (r := r) (by omega) (by omega)) v_X6_59 ⟨Nat.le_of_ble_eq_true rfl, Nat.le_of_ble_eq_true rfl, rfl, rfl⟩ rfl rfl (Nat.le_of_ble_eq_true rfl) hl.1 ⟨Nat.zero_le _, Nat.zero_le _⟩ dX6_commit_24 (fun r_24 G_24 H locs hR hP hS => ?_)
    obtain ⟨rfl, hG_24⟩ := hR
    rw [hG_24] at hP
    clear hG_24
    first
      | refine kif_ne (tgt := 33) hx hb dX6_commit_27 (by decide) (fun c_27 => ?_) (fun c_27 => ?_)
      | refine lv_if_ne (tgt := 33) hx hb dX6_commit_27 (by decide) (fun c_27 => ?_) (fun c_27 => ?_)
    · skip
      refine lv_aload_n hx hb dX6_commit_33 rfl (lv_at hl 0 rfl) ?_
      refine kget X hP oX g_X6_12 rfl dX6_commit_34 ?_
      refine lv_aload_n hx hb dX6_commit_37 rfl (lv_at hl 2 rfl) ?_
      refine kcV X hP hS (c_X4_hasConflict l hI (j := 0) (r := r) (by omega) (by omega)) (oS (j := 0) (by omega)) v_X6_130 ⟨Nat.le_of_ble_eq_true rfl, Nat.le_of_ble_eq_true rfl, rfl, rfl⟩ rfl rfl (Nat.le_of_ble_eq_true rfl) hl.1 ⟨Nat.zero_le _, Nat.zero_le _⟩ dX6_commit_38 (fun r_38 G_38 H locs hR hP hS => ?_)
      obtain ⟨rfl, hG_38⟩ := hR
      rw [hG_38] at hP
      clear hG_38
      first
        | refine kif_eq (tgt := 47) hx hb dX6_commit_41 (by decide) (fun c_41 => ?_) (fun c_41 => ?_)
        | refine lv_if_eq (tgt := 47) hx hb dX6_commit_41 (by decide) (fun c_41 => ?_) (fun c_41 => ?_)
      · skip
        refine lv_aload_n hx hb dX6_commit_47 rfl (lv_at hl 0 rfl) ?_
        refine kget X hP oX g_X6_12 rfl dX6_commit_48 ?_
        refine kget X hP (oS (j := 0) (by omega)) g_X6_89 rfl dX6_commit_51 ?_
        first
          | refine kif_eq (tgt := 71) hx hb dX6_commit_54 (by decide) (fun c_54 => ?_) (fun c_54 => ?_)
          | refine lv_if_eq (tgt := 71) hx hb dX6_commit_54 (by decide) (fun c_54 => ?_) (fun c_54 => ?_)
        · skip
          refine lv_aload_n hx hb dX6_commit_71 rfl (lv_at hl 0 rfl) ?_
          refine kget X hP oX g_X6_12 rfl dX6_commit_72 ?_
          refine lv_iload_n hx hb dX6_commit_75 rfl (lv_at hl 1 rfl) ?_
          refine kcV X hP hS (c_X4_oldVersionsWithout l hI (j := 0) (n := n) (r := r) (P := P) (by omega) hn hn4 hr (fun c hc => ⟨(hp c hc).1, by have := (hp c hc).2.2; omega⟩)) (oS (j := 0) (by omega)) v_X6_137 ⟨Nat.le_of_ble_eq_true rfl, Nat.le_of_ble_eq_true rfl, rfl, rfl⟩ rfl rfl (Nat.le_of_ble_eq_true rfl) hl.1 ⟨Nat.zero_le _, Nat.zero_le _⟩ dX6_commit_76 (fun r_76 G_76 H locs hR hP hS => ?_)
          obtain ⟨rfl, hG_76⟩ := hR
          rw [hG_76] at hP
          clear hG_76
          refine lv_bipush (v := nI 40) hx hb dX6_commit_79 (by decide) ?_
          first
            | refine kic_le (tgt := 87) hx hb dX6_commit_81 (by decide) (by with_reducible rfl) (by with_reducible rfl) (by omega) (by omega) (fun c_81 => ?_) (fun c_81 => ?_)
            | refine lv_icmp_le (tgt := 87) hx hb dX6_commit_81 (by decide) (fun c_81 => ?_) (fun c_81 => ?_)
          · skip
            refine lv_aload_n hx hb dX6_commit_87 rfl (lv_at hl 0 rfl) ?_
            refine kget X hP oX g_X6_25 rfl dX6_commit_88 ?_
            refine lv_aload_n hx hb dX6_commit_91 rfl (lv_at hl 0 rfl) ?_
            refine kget X hP oX g_X6_12 rfl dX6_commit_92 ?_
            refine kcVv X hP hS (c_X2_record l hI (j := 0) (n := n) (k := k) (L := L) (pi := pi) (by omega) hL hL4 hpi hne hn hn4 hk hk4 hz hy) oH v_X6_44 ⟨Nat.le_of_ble_eq_true rfl, Nat.le_of_ble_eq_true rfl, rfl, rfl⟩ rfl rfl (Nat.le_of_ble_eq_true rfl) hl.1 ⟨Nat.zero_le _, Nat.zero_le _⟩ dX6_commit_95 (fun G_95 H locs hR hP hS => ?_)
            have h_95 : rcR G G_95 pi L n k := hR
            have e0 := rcR_0 h_95 hL4 hne
            have er : G_95 (rN 0 r) = G (rN 0 r) := e0 _ (by unfold rN; omega) (by unfold rN; omega) (by unfold rN; omega)
            refine lv_aload_n hx hb dX6_commit_98 rfl (lv_at hl 0 rfl) ?_
            refine kget X hP oX g_X6_12 rfl dX6_commit_99 ?_
            refine lv_iload_n hx hb dX6_commit_102 rfl (lv_at hl 1 rfl) ?_
            refine kcVv X hP hS (c_X4_land l hI (j := 0) (n := n) (k := k) (r := r) (mm := mm) (P := P) (by omega) (by rw [e0 (sB 0) (by unfold sB; omega) (by unfold sB; omega) (by unfold sB; omega)]; exact hn) hn4 hr (by rw [e0 (sB 0) (by unfold sB; omega) (by unfold sB; omega) (by unfold sB; omega)]; exact hk) (hkk r hr c_27) (by rw [e0 (sB 0) (by unfold sB; omega) (by unfold sB; omega) (by unfold sB; omega)]; exact hm) (fun c hc => by rw [e0 (cB 0 c) (by unfold cB; omega) (by unfold cB; omega) (by unfold cB; omega)]; exact hp c hc)) (oS (j := 0) (by omega)) v_X6_140 ⟨Nat.le_of_ble_eq_true rfl, Nat.le_of_ble_eq_true rfl, rfl, rfl⟩ rfl rfl (Nat.le_of_ble_eq_true rfl) hl.1 ⟨Nat.zero_le _, Nat.zero_le _⟩ dX6_commit_103 (fun G_103 H locs hR hP hS => ?_)
            obtain ⟨G1, u, h_1, h_2⟩ := hR
            refine lv_aload_n hx hb dX6_commit_106 rfl (lv_at hl 0 rfl) ?_
            refine kget X hP oX g_X6_12 rfl dX6_commit_107 ?_
            refine kget X hP (oS (j := 0) (by omega)) g_X6_144 rfl dX6_commit_110 ?_
            exact hret _ _ _ _ _ _ (rdP_h hr hn4 (by rw [if_pos c_27, if_neg c_41, if_neg (fun z => z.1 c_54), if_neg (Int32.not_lt.mpr c_81)]; exact ⟨_, G1, u, h_95, h_1, h_2, rfl⟩)) hP hS dX6_commit_113
          · skip
            refine lv_bipush (v := (-3)) hx hb dX6_commit_84 (by decide) ?_
            exact hret _ _ _ _ _ _ (rdP_h hr hn4 (by rw [if_pos c_27, if_neg c_41, if_neg (fun z => z.1 c_54), if_pos (Int32.not_le.mp c_81)]; exact ⟨rfl, rfl⟩)) hP hS dX6_commit_86
        · skip
          refine lv_aload_n hx hb dX6_commit_57 rfl (lv_at hl 0 rfl) ?_
          refine kget X hP oX g_X6_12 rfl dX6_commit_58 ?_
          refine lv_aload_n hx hb dX6_commit_61 rfl (lv_at hl 2 rfl) ?_
          refine kcV X hP hS (c_X4_skewsOf l hI (j := 0) (k := k) (r := r) (by omega) hk hk4 (by omega)) (oS (j := 0) (by omega)) v_X6_134 ⟨Nat.le_of_ble_eq_true rfl, Nat.le_of_ble_eq_true rfl, rfl, rfl⟩ rfl rfl (Nat.le_of_ble_eq_true rfl) hl.1 ⟨Nat.zero_le _, Nat.zero_le _⟩ dX6_commit_62 (fun r_62 G_62 H locs hR hP hS => ?_)
          obtain ⟨rfl, hG_62⟩ := hR
          rw [hG_62] at hP
          clear hG_62
          refine lv_if_le (tgt := 71) hx hb dX6_commit_65 (by decide) (fun c_65 => ?_) (fun c_65 => ?_)
          · skip
            refine lv_aload_n hx hb dX6_commit_71 rfl (lv_at hl 0 rfl) ?_
            refine kget X hP oX g_X6_12 rfl dX6_commit_72 ?_
            refine lv_iload_n hx hb dX6_commit_75 rfl (lv_at hl 1 rfl) ?_
            refine kcV X hP hS (c_X4_oldVersionsWithout l hI (j := 0) (n := n) (r := r) (P := P) (by omega) hn hn4 hr (fun c hc => ⟨(hp c hc).1, by have := (hp c hc).2.2; omega⟩)) (oS (j := 0) (by omega)) v_X6_137 ⟨Nat.le_of_ble_eq_true rfl, Nat.le_of_ble_eq_true rfl, rfl, rfl⟩ rfl rfl (Nat.le_of_ble_eq_true rfl) hl.1 ⟨Nat.zero_le _, Nat.zero_le _⟩ dX6_commit_76 (fun r_76 G_76 H locs hR hP hS => ?_)
            obtain ⟨rfl, hG_76⟩ := hR
            rw [hG_76] at hP
            clear hG_76
            refine lv_bipush (v := nI 40) hx hb dX6_commit_79 (by decide) ?_
            first
              | refine kic_le (tgt := 87) hx hb dX6_commit_81 (by decide) (by with_reducible rfl) (by with_reducible rfl) (by omega) (by omega) (fun c_81 => ?_) (fun c_81 => ?_)
              | refine lv_icmp_le (tgt := 87) hx hb dX6_commit_81 (by decide) (fun c_81 => ?_) (fun c_81 => ?_)
            · skip
              refine lv_aload_n hx hb dX6_commit_87 rfl (lv_at hl 0 rfl) ?_
              refine kget X hP oX g_X6_25 rfl dX6_commit_88 ?_
              refine lv_aload_n hx hb dX6_commit_91 rfl (lv_at hl 0 rfl) ?_
              refine kget X hP oX g_X6_12 rfl dX6_commit_92 ?_
              refine kcVv X hP hS (c_X2_record l hI (j := 0) (n := n) (k := k) (L := L) (pi := pi) (by omega) hL hL4 hpi hne hn hn4 hk hk4 hz hy) oH v_X6_44 ⟨Nat.le_of_ble_eq_true rfl, Nat.le_of_ble_eq_true rfl, rfl, rfl⟩ rfl rfl (Nat.le_of_ble_eq_true rfl) hl.1 ⟨Nat.zero_le _, Nat.zero_le _⟩ dX6_commit_95 (fun G_95 H locs hR hP hS => ?_)
              have h_95 : rcR G G_95 pi L n k := hR
              have e0 := rcR_0 h_95 hL4 hne
              have er : G_95 (rN 0 r) = G (rN 0 r) := e0 _ (by unfold rN; omega) (by unfold rN; omega) (by unfold rN; omega)
              refine lv_aload_n hx hb dX6_commit_98 rfl (lv_at hl 0 rfl) ?_
              refine kget X hP oX g_X6_12 rfl dX6_commit_99 ?_
              refine lv_iload_n hx hb dX6_commit_102 rfl (lv_at hl 1 rfl) ?_
              refine kcVv X hP hS (c_X4_land l hI (j := 0) (n := n) (k := k) (r := r) (mm := mm) (P := P) (by omega) (by rw [e0 (sB 0) (by unfold sB; omega) (by unfold sB; omega) (by unfold sB; omega)]; exact hn) hn4 hr (by rw [e0 (sB 0) (by unfold sB; omega) (by unfold sB; omega) (by unfold sB; omega)]; exact hk) (hkk r hr c_27) (by rw [e0 (sB 0) (by unfold sB; omega) (by unfold sB; omega) (by unfold sB; omega)]; exact hm) (fun c hc => by rw [e0 (cB 0 c) (by unfold cB; omega) (by unfold cB; omega) (by unfold cB; omega)]; exact hp c hc)) (oS (j := 0) (by omega)) v_X6_140 ⟨Nat.le_of_ble_eq_true rfl, Nat.le_of_ble_eq_true rfl, rfl, rfl⟩ rfl rfl (Nat.le_of_ble_eq_true rfl) hl.1 ⟨Nat.zero_le _, Nat.zero_le _⟩ dX6_commit_103 (fun G_103 H locs hR hP hS => ?_)
              obtain ⟨G1, u, h_1, h_2⟩ := hR
              refine lv_aload_n hx hb dX6_commit_106 rfl (lv_at hl 0 rfl) ?_
              refine kget X hP oX g_X6_12 rfl dX6_commit_107 ?_
              refine kget X hP (oS (j := 0) (by omega)) g_X6_144 rfl dX6_commit_110 ?_
              exact hret _ _ _ _ _ _ (rdP_h hr hn4 (by rw [if_pos c_27, if_neg c_41, if_neg (fun z => z.2 c_65), if_neg (Int32.not_lt.mpr c_81)]; exact ⟨_, G1, u, h_95, h_1, h_2, rfl⟩)) hP hS dX6_commit_113
            · skip
              refine lv_bipush (v := (-3)) hx hb dX6_commit_84 (by decide) ?_
              exact hret _ _ _ _ _ _ (rdP_h hr hn4 (by rw [if_pos c_27, if_neg c_41, if_neg (fun z => z.2 c_65), if_pos (Int32.not_le.mp c_81)]; exact ⟨rfl, rfl⟩)) hP hS dX6_commit_86
          · skip
            refine lv_bipush (v := (-4)) hx hb dX6_commit_68 (by decide) ?_
            exact hret _ _ _ _ _ _ (rdP_h hr hn4 (by rw [if_pos c_27, if_neg c_41, if_pos ⟨c_54, c_65⟩]; exact ⟨rfl, rfl⟩)) hP hS dX6_commit_70
      · skip
        refine lv_bipush (v := (-6)) hx hb dX6_commit_44 (by decide) ?_
        exact hret _ _ _ _ _ _ (rdP_h hr hn4 (by rw [if_pos c_27, if_pos c_41]; exact ⟨rfl, rfl⟩)) hP hS dX6_commit_46
    · skip
      refine lv_bipush (v := (-4)) hx hb dX6_commit_30 (by decide) ?_
      exact hret _ _ _ _ _ _ (rdP_h hr hn4 (by rw [if_neg c_27]; exact ⟨rfl, rfl⟩)) hP hS dX6_commit_32
  · skip
    have hms := hsR_no hn4 (by rw [hn] at c_8; exact c_8)
    refine lv_iconst (v := (-1)) hx hb dX6_commit_11 (by decide) ?_
    exact hret _ _ _ _ _ _ (rdP_m hms ⟨rfl, rfl⟩) hP hS dX6_commit_12

set_option maxHeartbeats 4000000 in
set_option maxRecDepth 100000 in
theorem c_X6_readWrites (l : Launch) {D : va_G} {τ : Nat → ClassId} {ad : Nat → Nat} (hI : kInj ad) {G : Nat → Nat → Int32} {n k L : Nat} {T : Nat} {x : Int32} {pi : Nat → Nat} (hL : G 8 1 = nI L) (hL4 : L ≤ 4) (hpi : ∀ t, t < 4 → G 9 t = nI (pi t) ∧ pi t < 7) (hne : ∀ t, t < 4 → pi t ≠ 0) (hn : G (sB 0) 6 = nI n) (hn4 : n ≤ 40) (hk : G (sB 0) 7 = nI k) (hk4 : k ≤ 40) (hz : ∀ r, r < n → G (rN 0 r) 8 = 0 ∨ G (rN 0 r) 8 = 1) (hy : G (sB 0) 9 = 0 ∨ G (sB 0) 9 = 1) (hT : G 10 1 = nI T) (hT6 : T ≤ 60) : kM l yX6_readWrites cX6_readWrites 5 (some .int) { frames := 4, cells := 0, slots := 0, locals := 104 } D τ ad [.ref (ad 7), .int x] G (fun v G' => rdP n x (v = -1 ∧ G' = G) (fun r => if pR (G 11) T 16 0 = -1 then (if nI 12 ≤ mxF (fun t => wc (G 11) T t) (pW (G 11) T 16 0) then v = -1 ∧ tfR G G' else if G (rN 0 r) 1 = 0 then ∃ Gf Gr, tfR G Gf ∧ rcR Gf Gr pi L n k ∧ v = bcF (wrC Gr r (G 11) T (pW (G 11) T 16 0) (rN 0 r) 5) ∧ G' = wrC Gr r (G 11) T (pW (G 11) T 16 0) else v = -4 ∧ tfR G G') else v = -100 - pR (G 11) T 16 0 ∧ tfR G G')) := by
  refine kMet (own := RX6) (by decide) rfl (Nat.le_of_ble_eq_true rfl) ?_
  intro p9 e9 s9 m9 args9 below9 meth9 c9 Q9 X hx hb hP hS hret ls hl
  have hPs := hP
  have hl : lv_has ls 5 [(0, .ref (ad 7)), (1, .int x)] := hl
  refine lv_aload_n hx hb dX6_readWrites_0 rfl (lv_at hl 0 rfl) ?_
  refine kget X hP oX g_X6_12 rfl dX6_readWrites_1 ?_
  refine lv_iload_n hx hb dX6_readWrites_4 rfl (lv_at hl 1 rfl) ?_
  refine kcV X hP hS (c_X4_hasReader l hI (j := 0) (by omega)) (oS (j := 0) (by omega)) v_X6_51 ⟨Nat.le_of_ble_eq_true rfl, Nat.le_of_ble_eq_true rfl, rfl, rfl⟩ rfl rfl (Nat.le_of_ble_eq_true rfl) hl.1 ⟨Nat.zero_le _, Nat.zero_le _⟩ dX6_readWrites_5 (fun r_5 G_5 H locs hR hP hS => ?_)
  obtain ⟨rfl, hG_5⟩ := hR
  rw [hG_5] at hP
  clear hG_5
  first
    | refine kif_ne (tgt := 13) hx hb dX6_readWrites_8 (by decide) (fun c_8 => ?_) (fun c_8 => ?_)
    | refine lv_if_ne (tgt := 13) hx hb dX6_readWrites_8 (by decide) (fun c_8 => ?_) (fun c_8 => ?_)
  · skip
    obtain ⟨r, hr, rfl⟩ := hsR_yes hn4 (by rw [hn] at c_8; exact c_8)
    refine lv_aload_n hx hb dX6_readWrites_13 rfl (lv_at hl 0 rfl) ?_
    refine kget X hP oX g_X6_32 rfl dX6_readWrites_14 ?_
    refine kcV X hP hS (c_X5_parse l hI hT hT6) oT v_X6_152 ⟨Nat.le_of_ble_eq_true rfl, Nat.le_of_ble_eq_true rfl, rfl, rfl⟩ rfl rfl (Nat.le_of_ble_eq_true rfl) hl.1 ⟨Nat.zero_le _, Nat.zero_le _⟩ dX6_readWrites_17 (fun r_17 G_17 H locs hR hP hS => ?_)
    obtain ⟨rfl, hfr0, hf10, hok0⟩ := hR
    have htf : tfR G G_17 := ⟨hfr0, by rw [hf10, hT]⟩
    have hf8 : G_17 8 = G 8 := hfr0 8 (by omega) (by omega) (by omega)
    have hf9 : G_17 9 = G 9 := hfr0 9 (by omega) (by omega) (by omega)
    have hfs : G_17 (sB 0) = G (sB 0) := hfr0 _ (by unfold sB; omega) (by unfold sB; omega) (by unfold sB; omega)
    have hfr : ∀ r, r < 40 → G_17 (rN 0 r) = G (rN 0 r) := fun r hr => hfr0 _ (by unfold rN; omega) (by unfold rN; omega) (by unfold rN; omega)
    refine kist hx hb dX6_readWrites_20 rfl hl (by decide) (kp_2_2 rfl) (fun ls hl => ?_)
    refine lv_iload_n hx hb dX6_readWrites_21 rfl (lv_at hl 2 rfl) ?_
    refine lv_iconst (v := (-1)) hx hb dX6_readWrites_22 (by decide) ?_
    first
      | refine kic_eq (tgt := 31) hx hb dX6_readWrites_23 (by decide) (by with_reducible rfl) (by with_reducible rfl) (by omega) (by omega) (fun c_23 => ?_) (fun c_23 => ?_)
      | refine lv_icmp_eq (tgt := 31) hx hb dX6_readWrites_23 (by decide) (fun c_23 => ?_) (fun c_23 => ?_)
    · skip
      obtain ⟨hw0, hw16, hok⟩ := hok0 c_23
      have hmx : mxF (G_17 12) (pW (G 11) T 16 0) = mxF (fun t => wc (G 11) T t) (pW (G 11) T 16 0) := mxF_congr (fun t ht => (hok t ht).1)
      refine lv_aload_n hx hb dX6_readWrites_31 rfl (lv_at hl 0 rfl) ?_
      refine kget X hP oX g_X6_32 rfl dX6_readWrites_32 ?_
      refine kcV X hP hS (c_X5_greatestCell l hI hw0 hw16) oT v_X6_155 ⟨Nat.le_of_ble_eq_true rfl, Nat.le_of_ble_eq_true rfl, rfl, rfl⟩ rfl rfl (Nat.le_of_ble_eq_true rfl) hl.1 ⟨Nat.zero_le _, Nat.zero_le _⟩ dX6_readWrites_35 (fun r_35 G_35 H locs hR hP hS => ?_)
      obtain ⟨rfl, hG_35⟩ := hR
      rw [hG_35] at hP
      clear hG_35
      rw [hmx]
      refine lv_bipush (v := nI 12) hx hb dX6_readWrites_38 (by decide) ?_
      first
        | refine kic_lt (tgt := 45) hx hb dX6_readWrites_40 (by decide) (by with_reducible rfl) (by with_reducible rfl) (by omega) (by omega) (fun c_40 => ?_) (fun c_40 => ?_)
        | refine lv_icmp_lt (tgt := 45) hx hb dX6_readWrites_40 (by decide) (fun c_40 => ?_) (fun c_40 => ?_)
      · skip
        refine lv_aload_n hx hb dX6_readWrites_45 rfl (lv_at hl 0 rfl) ?_
        refine kget X hP oX g_X6_12 rfl dX6_readWrites_46 ?_
        refine kget X hP (oS (j := 0) (by omega)) g_X6_55 rfl dX6_readWrites_49 ?_
        refine lv_iload_n hx hb dX6_readWrites_52 rfl (lv_at hl 1 rfl) ?_
        refine kaald X hP (qR (j := 0) (by omega)) (by omega) rfl dX6_readWrites_53 ?_
        refine kast hx hb dX6_readWrites_54 rfl hl (by decide) (kp_3_3 rfl) (fun ls hl => ?_)
        refine lv_aload_n hx hb dX6_readWrites_55 rfl (lv_at hl 3 rfl) ?_
        refine kcV X hP hS (c_X3_isOpen l hI (j := 0) (by omega) (by omega)) (oR (j := 0) (r := r) (by omega) (by omega)) v_X6_59 ⟨Nat.le_of_ble_eq_true rfl, Nat.le_of_ble_eq_true rfl, rfl, rfl⟩ rfl rfl (Nat.le_of_ble_eq_true rfl) hl.1 ⟨Nat.zero_le _, Nat.zero_le _⟩ dX6_readWrites_56 (fun r_56 G_56 H locs hR hP hS => ?_)
        obtain ⟨rfl, hG_56⟩ := hR
        rw [hG_56] at hP
        clear hG_56
        rw [hfr r (by omega)]
        first
          | refine kif_ne (tgt := 65) hx hb dX6_readWrites_59 (by decide) (fun c_59 => ?_) (fun c_59 => ?_)
          | refine lv_if_ne (tgt := 65) hx hb dX6_readWrites_59 (by decide) (fun c_59 => ?_) (fun c_59 => ?_)
        · skip
          refine lv_aload_n hx hb dX6_readWrites_65 rfl (lv_at hl 0 rfl) ?_
          refine kget X hP oX g_X6_25 rfl dX6_readWrites_66 ?_
          refine lv_aload_n hx hb dX6_readWrites_69 rfl (lv_at hl 0 rfl) ?_
          refine kget X hP oX g_X6_12 rfl dX6_readWrites_70 ?_
          refine kcVv X hP hS (c_X2_record l hI (j := 0) (n := n) (k := k) (L := L) (pi := pi) (by omega) (by rw [hf8]; exact hL) hL4 (by rw [hf9]; exact hpi) hne (by rw [hfs]; exact hn) hn4 (by rw [hfs]; exact hk) hk4 (fun r hr => by rw [hfr r (by omega)]; exact hz r hr) (by rw [hfs]; exact hy)) oH v_X6_44 ⟨Nat.le_of_ble_eq_true rfl, Nat.le_of_ble_eq_true rfl, rfl, rfl⟩ rfl rfl (Nat.le_of_ble_eq_true rfl) hl.1 ⟨Nat.zero_le _, Nat.zero_le _⟩ dX6_readWrites_73 (fun G_73 H locs hR hP hS => ?_)
          have h_73 : rcR G_17 G_73 pi L n k := hR
          have e0 := rcR_0 h_73 hL4 hne
          refine lv_iconst (v := nI 0) hx hb dX6_readWrites_76 (by decide) ?_
          refine kistW hx hb dX6_readWrites_77 hl (by decide) (kp_4_4 rfl) (fun ls hl => ?_)
          have lp_79 : ∀ (d : Nat) (i : Nat) (H : Heap) (locs : List Loc) (ls : Array Slot), ((pW (G 11) T 16 0) - i) < d → (i ≤ (pW (G 11) T 16 0)) → va_P D vwCl (kW τ ad (wrC G_73 r (G 11) T i)) H → va_S (kAd ad) s9.heap H locs → lv_has ls 5 [(0, .ref (ad 7)), (1, .int (nI r)), (2, .int (pR (G 11) T 16 0)), (3, .ref (ad (rN 0 r))), (4, .int (nI i))] → W p9 l e9 { frames := 4, cells := 0, slots := 0, locals := 104 } s9 m9 args9 below9 meth9 c9 H locs 0 0 Q9 (F0 m9 79 ls []) := by
            intro d
            induction d with
            | zero => exact fun _ _ _ _ hd => absurd hd (Nat.not_lt_zero _)
            | succ d ih_79 =>
              intro i H locs ls hd iv_0 hP hS hl
              have hw4 : (wrC G_73 r (G 11) T i) 10 4 = nI (pW (G 11) T 16 0) := by rw [wrC_o (by unfold rW; omega) (by unfold rN; omega), e0 10 (by omega) (by omega) (by omega)]; exact hw0
              refine lv_iload hx hb dX6_readWrites_79 (lv_at hl 4 rfl) ?_
              refine lv_aload_n hx hb dX6_readWrites_81 rfl (lv_at hl 0 rfl) ?_
              refine kget X hP oX g_X6_32 rfl dX6_readWrites_82 ?_
              refine kget X hP oT g_X6_158 (congrArg (fun z => some (Value.int z)) hw4) dX6_readWrites_85 ?_
              first
                | refine kic_ge (tgt := 121) hx hb dX6_readWrites_88 (by decide) (by with_reducible rfl) (by with_reducible rfl) (by omega) (by omega) (fun c_88 => ?_) (fun c_88 => ?_)
                | refine lv_icmp_ge (tgt := 121) hx hb dX6_readWrites_88 (by decide) (fun c_88 => ?_) (fun c_88 => ?_)
              · skip
                refine lv_aload_n hx hb dX6_readWrites_121 rfl (lv_at hl 3 rfl) ?_
                refine kcV X hP hS (c_X3_numberOfWrites l hI (j := 0) (by omega) (by omega)) (oR (j := 0) (r := r) (by omega) (by omega)) v_X6_127 ⟨Nat.le_of_ble_eq_true rfl, Nat.le_of_ble_eq_true rfl, rfl, rfl⟩ rfl rfl (Nat.le_of_ble_eq_true rfl) hl.1 ⟨Nat.zero_le _, Nat.zero_le _⟩ dX6_readWrites_122 (fun r_122 G_122 H locs hR hP hS => ?_)
                obtain ⟨rfl, hG_122⟩ := hR
                rw [hG_122] at hP
                clear hG_122
                exact hret _ _ _ _ _ _ (rdP_h hr hn4 (by rw [if_pos c_23, if_neg (Int32.not_le.mpr c_40), if_pos c_59]; exact ⟨G_17, G_73, htf, h_73, by rw [show pW (G 11) T 16 0 = i by omega], by rw [show pW (G 11) T 16 0 = i by omega]⟩)) hP hS dX6_readWrites_125
              · skip
                obtain ⟨q, hq1, hq⟩ := mxF_cell (C := fun t => wc (G 11) T t) (w := pW (G 11) T 16 0) (t := i) (by omega) (Int32.not_le.mpr c_40) wc_0
                have hq : wc (G 11) T i = nI q := hq
                have hc4 : (wrC G_73 r (G 11) T i) 12 i = wc (G 11) T i := by rw [wrC_o (by unfold rW; omega) (by unfold rN; omega), e0 12 (by omega) (by omega) (by omega)]; exact (hok i (by omega)).1
                have hv4 : (wrC G_73 r (G 11) T i) 13 i = wv (G 11) T i := by rw [wrC_o (by unfold rW; omega) (by unfold rN; omega), e0 13 (by omega) (by omega) (by omega)]; exact (hok i (by omega)).2
                refine lv_aload_n hx hb dX6_readWrites_91 rfl (lv_at hl 3 rfl) ?_
                refine lv_aload_n hx hb dX6_readWrites_92 rfl (lv_at hl 0 rfl) ?_
                refine kget X hP oX g_X6_32 rfl dX6_readWrites_93 ?_
                refine kget X hP oT g_X6_160 rfl dX6_readWrites_96 ?_
                refine lv_iload hx hb dX6_readWrites_99 (lv_at hl 4 rfl) ?_
                refine kiald X hP aTc (by omega) dX6_readWrites_101 ?_
                rw [hc4, hq]
                refine lv_aload_n hx hb dX6_readWrites_102 rfl (lv_at hl 0 rfl) ?_
                refine kget X hP oX g_X6_32 rfl dX6_readWrites_103 ?_
                refine kget X hP oT g_X6_162 rfl dX6_readWrites_106 ?_
                refine lv_iload hx hb dX6_readWrites_109 (lv_at hl 4 rfl) ?_
                refine kiald X hP aTv (by omega) dX6_readWrites_111 ?_
                rw [hv4]
                refine kcVv X hP hS (c_X3_putWrite l hI (j := 0) (r := r) (k := q) (by omega) (by omega) hq1) (oR (j := 0) (r := r) (by omega) (by omega)) v_X6_124 ⟨Nat.le_of_ble_eq_true rfl, Nat.le_of_ble_eq_true rfl, rfl, rfl⟩ rfl rfl (Nat.le_of_ble_eq_true rfl) hl.1 ⟨Nat.zero_le _, Nat.zero_le _⟩ dX6_readWrites_112 (fun G_112 H locs hR hP hS => ?_)
                subst hR
                first
                  | refine kinc (q := 4) hx hb dX6_readWrites_115 hl rfl (by decide) (kp_5_4 rfl) (fun ls hl => ?_)
                  | refine kincG (q := 4) hx hb dX6_readWrites_115 hl rfl (by decide) (kp_5_4 rfl) (fun ls hl => ?_)
                refine lv_goto (tgt := 79) hx hb dX6_readWrites_118 (by decide) ?_
                rw [show gs (gs (wrC G_73 r (G 11) T i) (rW 0 r) q (wv (G 11) T i)) (rN 0 r) 5 ((wrC G_73 r (G 11) T i) (rN 0 r) 5 ||| bt q) = (wrC G_73 r (G 11) T (i + 1)) from by rw [wrC, hq, nI_clamp (by omega)]] at hP
                exact ih_79 _ _ _ _ (by omega) (by omega) hP hS (lv_sub hl [0,1,2,3,4] rfl)
          exact lp_79 _ 0 _ _ _ (Nat.lt_succ_self _) (Nat.zero_le _) hP hS (lv_sub hl [0,1,2,3,4] rfl)
        · skip
          refine lv_bipush (v := (-4)) hx hb dX6_readWrites_62 (by decide) ?_
          exact hret _ _ _ _ _ _ (rdP_h hr hn4 (by rw [if_pos c_23, if_neg (Int32.not_le.mpr c_40), if_neg c_59]; exact ⟨rfl, htf⟩)) hP hS dX6_readWrites_64
      · skip
        refine lv_iconst (v := (-1)) hx hb dX6_readWrites_43 (by decide) ?_
        exact hret _ _ _ _ _ _ (rdP_h hr hn4 (by rw [if_pos c_23, if_pos (Int32.not_lt.mp c_40)]; exact ⟨rfl, htf⟩)) hP hS dX6_readWrites_44
    · skip
      refine lv_bipush (v := (-100)) hx hb dX6_readWrites_26 (by decide) ?_
      refine lv_iload_n hx hb dX6_readWrites_28 rfl (lv_at hl 2 rfl) ?_
      refine lv_isub hx hb dX6_readWrites_29 ?_
      exact hret _ _ _ _ _ _ (rdP_h hr hn4 (by rw [if_neg c_23]; exact ⟨rfl, htf⟩)) hP hS dX6_readWrites_30
  · skip
    have hms := hsR_no hn4 (by rw [hn] at c_8; exact c_8)
    refine lv_iconst (v := (-1)) hx hb dX6_readWrites_11 (by decide) ?_
    exact hret _ _ _ _ _ _ (rdP_m hms ⟨rfl, rfl⟩) hP hS dX6_readWrites_12

set_option maxHeartbeats 4000000 in
set_option maxRecDepth 100000 in
theorem c_X6_version (l : Launch) {D : va_G} {τ : Nat → ClassId} {ad : Nat → Nat} (hI : kInj ad) {G : Nat → Nat → Int32} {n : Nat} {P : Nat → Nat} {x p y : Int32} (hn : G (sB 0) 6 = nI n) (hn4 : n ≤ 40)  (hp : ∀ c, c < 12 → G (cB 0 c) 2 = nI (P c) ∧ 1 ≤ P c ∧ P c ≤ 10) : kM l yX6_version cX6_version 5 (some .int) { frames := 3, cells := 0, slots := 0, locals := 70 } D τ ad [.ref (ad 7), .int x, .int p, .int y] G (fun v G' => G' = G ∧ rdP 12 x (v = -1) (fun c => if ¬ p < 0 ∧ (nI 0 ≤ y ∧ y ≤ nI 4) then (if nI (P c) ≤ p then v = -5 else v = vrC G n c (P c) p y) else v = -2)) := by
  refine kMet (own := RX6) (by decide) rfl (Nat.le_of_ble_eq_true rfl) ?_
  intro p9 e9 s9 m9 args9 below9 meth9 c9 Q9 X hx hb hP hS hret ls hl
  have hPs := hP
  have hl : lv_has ls 5 [(0, .ref (ad 7)), (1, .int x), (2, .int p), (3, .int y)] := hl
  refine lv_iload_n hx hb dX6_version_0 rfl (lv_at hl 1 rfl) ?_
  refine kcS X hP hS (c_X6_isCell l hI) v_X6_99 ⟨Nat.le_of_ble_eq_true rfl, Nat.le_of_ble_eq_true rfl, rfl, rfl⟩ rfl rfl (Nat.le_of_ble_eq_true rfl) hl.1 ⟨Nat.zero_le _, Nat.zero_le _⟩ dX6_version_1 (fun r_1 G_1 H locs hR hP hS => ?_)
  obtain ⟨rfl, hG_1⟩ := hR
  rw [hG_1] at hP
  clear hG_1
  first
    | refine kif_ne (tgt := 9) hx hb dX6_version_4 (by decide) (fun c_4 => ?_) (fun c_4 => ?_)
    | refine lv_if_ne (tgt := 9) hx hb dX6_version_4 (by decide) (fun c_4 => ?_) (fun c_4 => ?_)
  · skip
    obtain ⟨c, hc, rfl⟩ := hsR_yes (n := 12) (by omega) c_4
    refine lv_iload_n hx hb dX6_version_9 rfl (lv_at hl 2 rfl) ?_
    refine lv_if_lt (tgt := 22) hx hb dX6_version_10 (by decide) (fun c_10 => ?_) (fun c_10 => ?_)
    · skip
      refine lv_bipush (v := (-2)) hx hb dX6_version_22 (by decide) ?_
      exact hret _ _ _ _ _ _ (⟨rfl, rdP_h hc (by omega) (by rw [if_neg (fun z => absurd c_10 z.1)])⟩) hP hS dX6_version_24
    · skip
      refine lv_iload_n hx hb dX6_version_13 rfl (lv_at hl 3 rfl) ?_
      refine lv_if_lt (tgt := 22) hx hb dX6_version_14 (by decide) (fun c_14 => ?_) (fun c_14 => ?_)
      · skip
        refine lv_bipush (v := (-2)) hx hb dX6_version_22 (by decide) ?_
        exact hret _ _ _ _ _ _ (⟨rfl, rdP_h hc (by omega) (by rw [if_neg (fun z => absurd c_14 (Int32.not_lt.mpr z.2.1))])⟩) hP hS dX6_version_24
      · skip
        refine lv_iload_n hx hb dX6_version_17 rfl (lv_at hl 3 rfl) ?_
        refine lv_iconst (v := nI 4) hx hb dX6_version_18 (by decide) ?_
        first
          | refine kic_le (tgt := 25) hx hb dX6_version_19 (by decide) (by with_reducible rfl) (by with_reducible rfl) (by omega) (by omega) (fun c_19 => ?_) (fun c_19 => ?_)
          | refine lv_icmp_le (tgt := 25) hx hb dX6_version_19 (by decide) (fun c_19 => ?_) (fun c_19 => ?_)
        · skip
          refine lv_aload_n hx hb dX6_version_25 rfl (lv_at hl 0 rfl) ?_
          refine kget X hP oX g_X6_12 rfl dX6_version_26 ?_
          refine kget X hP (oS (j := 0) (by omega)) g_X6_112 rfl dX6_version_29 ?_
          refine lv_iload_n hx hb dX6_version_32 rfl (lv_at hl 1 rfl) ?_
          refine kaald X hP (qC (j := 0) (by omega)) (by omega) rfl dX6_version_33 ?_
          refine kastW hx hb dX6_version_34 hl (by decide) (kp_4_4 rfl) (fun ls hl => ?_)
          refine lv_iload_n hx hb dX6_version_36 rfl (lv_at hl 2 rfl) ?_
          refine lv_aload hx hb dX6_version_37 (lv_at hl 4 rfl) ?_
          refine kget X hP (oC (j := 0) (c := c) (by omega) hc) g_X6_179 (congrArg (fun z => some (Value.int z)) (hp c hc).1) dX6_version_39 ?_
          first
            | refine kic_lt (tgt := 48) hx hb dX6_version_42 (by decide) (by with_reducible rfl) (by with_reducible rfl) (by omega) (by omega) (fun c_42 => ?_) (fun c_42 => ?_)
            | refine lv_icmp_lt (tgt := 48) hx hb dX6_version_42 (by decide) (fun c_42 => ?_) (fun c_42 => ?_)
          · skip
            have hp0 : ¬ p < 0 := c_10
            have hy0 : nI 0 ≤ y ∧ y ≤ nI 4 := ⟨Int32.not_lt.mp c_14, c_19⟩
            obtain ⟨q, hq32, rfl⟩ := nI_of c_10
            have hq : q < P c := (nI_ltI hq32 (by have := (hp c hc).2.2; omega)).mp c_42
            refine lv_iload_n hx hb dX6_version_48 rfl (lv_at hl 3 rfl) ?_
            by_cases q_0 : y = nI 0
            · skip
              subst q_0
              refine lv_tableIn (off := 31) (tgt := 80) hx hb dX6_version_49 (by decide) (by decide) rfl (by decide) ?_
              refine lv_aload hx hb dX6_version_80 (lv_at hl 4 rfl) ?_
              refine kget X hP (oC (j := 0) (c := c) (by omega) hc) g_X6_175 rfl dX6_version_82 ?_
              refine lv_iload_n hx hb dX6_version_85 rfl (lv_at hl 2 rfl) ?_
              refine kiald X hP (aV (j := 0) (c := c) (by omega) hc) (by have := (hp c hc).2.2; omega) dX6_version_86 ?_
              exact hret _ _ _ _ _ _ (⟨rfl, rdP_h hc (by omega) (by rw [if_pos ⟨hp0, hy0⟩, if_neg (nI_ge hq (by have := (hp c hc).2.2; omega)), vrC, if_pos (rfl : nI 0 = nI 0), nI_clamp (by have := (hp c hc).2.2; omega)])⟩) hP hS dX6_version_87
            by_cases q_1 : y = nI 1
            · skip
              subst q_1
              refine lv_tableIn (off := 39) (tgt := 88) hx hb dX6_version_49 (by decide) (by decide) rfl (by decide) ?_
              refine lv_aload hx hb dX6_version_88 (lv_at hl 4 rfl) ?_
              refine kget X hP (oC (j := 0) (c := c) (by omega) hc) g_X6_176 rfl dX6_version_90 ?_
              refine lv_iload_n hx hb dX6_version_93 rfl (lv_at hl 2 rfl) ?_
              refine kiald X hP (aM (j := 0) (c := c) (by omega) hc) (by have := (hp c hc).2.2; omega) dX6_version_94 ?_
              exact hret _ _ _ _ _ _ (⟨rfl, rdP_h hc (by omega) (by rw [if_pos ⟨hp0, hy0⟩, if_neg (nI_ge hq (by have := (hp c hc).2.2; omega)), vrC, if_neg q_0, if_pos (rfl : nI 1 = nI 1), nI_clamp (by have := (hp c hc).2.2; omega)])⟩) hP hS dX6_version_95
            by_cases q_2 : y = nI 2
            · skip
              subst q_2
              refine lv_tableIn (off := 47) (tgt := 96) hx hb dX6_version_49 (by decide) (by decide) rfl (by decide) ?_
              refine lv_aload_n hx hb dX6_version_96 rfl (lv_at hl 0 rfl) ?_
              refine kget X hP oX g_X6_12 rfl dX6_version_97 ?_
              refine lv_aload hx hb dX6_version_100 (lv_at hl 4 rfl) ?_
              refine lv_iload_n hx hb dX6_version_102 rfl (lv_at hl 2 rfl) ?_
              refine kcV X hP hS (c_X4_seersOf l hI (j := 0) (n := n) (c := c) (P := P c) (by omega) hn hn4 hc (hp c hc).1 (hp c hc).2.2) (oS (j := 0) (by omega)) v_X6_182 ⟨Nat.le_of_ble_eq_true rfl, Nat.le_of_ble_eq_true rfl, rfl, rfl⟩ rfl rfl (Nat.le_of_ble_eq_true rfl) hl.1 ⟨Nat.zero_le _, Nat.zero_le _⟩ dX6_version_103 (fun r_103 G_103 H locs hR hP hS => ?_)
              obtain ⟨rfl, hG_103⟩ := hR
              rw [hG_103] at hP
              clear hG_103
              exact hret _ _ _ _ _ _ (⟨rfl, rdP_h hc (by omega) (by rw [if_pos ⟨hp0, hy0⟩, if_neg (nI_ge hq (by have := (hp c hc).2.2; omega)), vrC, if_neg q_0, if_neg q_1, if_pos (rfl : nI 2 = nI 2)])⟩) hP hS dX6_version_106
            by_cases q_3 : y = nI 3
            · skip
              subst q_3
              refine lv_tableIn (off := 58) (tgt := 107) hx hb dX6_version_49 (by decide) (by decide) rfl (by decide) ?_
              refine lv_aload_n hx hb dX6_version_107 rfl (lv_at hl 0 rfl) ?_
              refine kget X hP oX g_X6_12 rfl dX6_version_108 ?_
              refine lv_aload hx hb dX6_version_111 (lv_at hl 4 rfl) ?_
              refine lv_iload_n hx hb dX6_version_113 rfl (lv_at hl 2 rfl) ?_
              refine kcV X hP hS (c_X4_payersOf l hI (j := 0) (n := n) (c := c) (P := P c) (by omega) hn hn4 hc (hp c hc).1 (hp c hc).2.2) (oS (j := 0) (by omega)) v_X6_189 ⟨Nat.le_of_ble_eq_true rfl, Nat.le_of_ble_eq_true rfl, rfl, rfl⟩ rfl rfl (Nat.le_of_ble_eq_true rfl) hl.1 ⟨Nat.zero_le _, Nat.zero_le _⟩ dX6_version_114 (fun r_114 G_114 H locs hR hP hS => ?_)
              obtain ⟨rfl, hG_114⟩ := hR
              rw [hG_114] at hP
              clear hG_114
              exact hret _ _ _ _ _ _ (⟨rfl, rdP_h hc (by omega) (by rw [if_pos ⟨hp0, hy0⟩, if_neg (nI_ge hq (by have := (hp c hc).2.2; omega)), vrC, if_neg q_0, if_neg q_1, if_neg q_2, if_pos (rfl : nI 3 = nI 3)])⟩) hP hS dX6_version_117
            refine lv_tableOut (tgt := 118) hx hb dX6_version_49 (tb_out 3 (by decide) (fun i hi => by
                rcases (show i = 0 ∨ i = 1 ∨ i = 2 ∨ i = 3 by omega) with rfl | rfl | rfl | rfl <;> assumption)) (by decide) ?_
            refine lv_aload_n hx hb dX6_version_118 rfl (lv_at hl 0 rfl) ?_
            refine kget X hP oX g_X6_12 rfl dX6_version_119 ?_
            refine lv_aload hx hb dX6_version_122 (lv_at hl 4 rfl) ?_
            refine lv_iload_n hx hb dX6_version_124 rfl (lv_at hl 2 rfl) ?_
            refine kcV X hP hS (c_X4_shareOf l hI (j := 0) (n := n) (c := c) (P := P c) (by omega) hn hn4 hc (hp c hc).1 (hp c hc).2.2) (oS (j := 0) (by omega)) v_X6_192 ⟨Nat.le_of_ble_eq_true rfl, Nat.le_of_ble_eq_true rfl, rfl, rfl⟩ rfl rfl (Nat.le_of_ble_eq_true rfl) hl.1 ⟨Nat.zero_le _, Nat.zero_le _⟩ dX6_version_125 (fun r_125 G_125 H locs hR hP hS => ?_)
            obtain ⟨rfl, hG_125⟩ := hR
            rw [hG_125] at hP
            clear hG_125
            exact hret _ _ _ _ _ _ (⟨rfl, rdP_h hc (by omega) (by rw [if_pos ⟨hp0, hy0⟩, if_neg (nI_ge hq (by have := (hp c hc).2.2; omega)), vrC, if_neg q_0, if_neg q_1, if_neg q_2, if_neg q_3])⟩) hP hS dX6_version_128
          · skip
            refine lv_bipush (v := (-5)) hx hb dX6_version_45 (by decide) ?_
            exact hret _ _ _ _ _ _ (⟨rfl, rdP_h hc (by omega) (by rw [if_pos ⟨c_10, Int32.not_lt.mp c_14, c_19⟩, if_pos (Int32.not_lt.mp c_42)])⟩) hP hS dX6_version_47
        · skip
          refine lv_bipush (v := (-2)) hx hb dX6_version_22 (by decide) ?_
          exact hret _ _ _ _ _ _ (⟨rfl, rdP_h hc (by omega) (by rw [if_neg (fun z => absurd z.2.2 c_19)])⟩) hP hS dX6_version_24
  · skip
    have hmc := hsR_no (n := 12) (by omega) c_4
    refine lv_iconst (v := (-1)) hx hb dX6_version_7 (by decide) ?_
    exact hret _ _ _ _ _ _ (⟨rfl, rdP_m hmc rfl⟩) hP hS dX6_version_8

set_option maxHeartbeats 4000000 in
set_option maxRecDepth 100000 in
theorem c_X6_tick (l : Launch) {D : va_G} {τ : Nat → ClassId} {ad : Nat → Nat} (hI : kInj ad) {G : Nat → Nat → Int32} {n k L : Nat} {y : Int32} {pi : Nat → Nat} (hL : G 8 1 = nI L) (hL4 : L ≤ 4) (hpi : ∀ t, t < 4 → G 9 t = nI (pi t) ∧ pi t < 7) (hne : ∀ t, t < 4 → pi t ≠ 0) (hn : G (sB 0) 6 = nI n) (hn4 : n ≤ 40) (hk : G (sB 0) 7 = nI k) (hk4 : k ≤ 40) (hz : ∀ r, r < n → G (rN 0 r) 8 = 0 ∨ G (rN 0 r) 8 = 1) (hy : G (sB 0) 9 = 0 ∨ G (sB 0) 9 = 1) (Z Y : (Nat → Nat → Int32) → Nat → Int32 → (Nat → Nat → Int32) → Prop) (hw : ∀ Gr i dc G1, Z Gr i dc G1 → ∃ P, PLS G1 0 n P) (hs : ∀ Gr i dc dc' G1 G2 P, Z Gr i dc G1 → PLS G1 0 n P → TKS G1 G2 0 n P dc dc' → Y Gr (i + 1) dc' G2) (hzz : ∀ Gr i dc G1, Y Gr i dc G1 → Z Gr i dc G1) (h0 : ∀ Gr, rcR G Gr pi L n k → Z Gr 0 (nI 1) Gr) : kM l yX6_tick cX6_tick 3 (some .int) { frames := 6, cells := 0, slots := 0, locals := 140 } D τ ad [.ref (ad 7), .int y] G (fun v G' => if nI 1 ≤ y ∧ y ≤ nI 60 then ∃ Gr dc, rcR G Gr pi L n k ∧ Z Gr y.toNatClampNeg dc G' ∧ v = nI (cn (fun i => if G' (rN 0 i) 1 = nI 3 then 1 else 0) n) - nI (cn (fun i => if Gr (rN 0 i) 1 = nI 3 then 1 else 0) n) else v = -2 ∧ G' = G) := by
  refine kMet (own := RX6) (by decide) rfl (Nat.le_of_ble_eq_true rfl) ?_
  intro p9 e9 s9 m9 args9 below9 meth9 c9 Q9 X hx hb hP hS hret ls hl
  have hPs := hP
  have hl : lv_has ls 3 [(0, .ref (ad 7)), (1, .int y)] := hl
  refine lv_iload_n hx hb dX6_tick_0 rfl (lv_at hl 1 rfl) ?_
  refine lv_iconst (v := nI 1) hx hb dX6_tick_1 (by decide) ?_
  first
    | refine kic_lt (tgt := 11) hx hb dX6_tick_2 (by decide) (by with_reducible rfl) (by with_reducible rfl) (by omega) (by omega) (fun c_2 => ?_) (fun c_2 => ?_)
    | refine lv_icmp_lt (tgt := 11) hx hb dX6_tick_2 (by decide) (fun c_2 => ?_) (fun c_2 => ?_)
  · skip
    refine lv_bipush (v := (-2)) hx hb dX6_tick_11 (by decide) ?_
    exact hret _ _ _ _ _ _ (by rw [if_neg (fun z => Int32.not_lt.mpr z.1 c_2)]; exact ⟨rfl, rfl⟩) hP hS dX6_tick_13
  · skip
    refine lv_iload_n hx hb dX6_tick_5 rfl (lv_at hl 1 rfl) ?_
    refine lv_bipush (v := nI 60) hx hb dX6_tick_6 (by decide) ?_
    first
      | refine kic_le (tgt := 14) hx hb dX6_tick_8 (by decide) (by with_reducible rfl) (by with_reducible rfl) (by omega) (by omega) (fun c_8 => ?_) (fun c_8 => ?_)
      | refine lv_icmp_le (tgt := 14) hx hb dX6_tick_8 (by decide) (fun c_8 => ?_) (fun c_8 => ?_)
    · skip
      obtain ⟨K, hK32, rfl⟩ := nI_of (x := y) (fun z => Int32.not_le.mpr (Int32.lt_trans z (by decide)) (Int32.not_lt.mp c_2))
      have hK6 : K ≤ 60 := (nI_leI hK32 (by omega)).mp c_8
      refine lv_aload_n hx hb dX6_tick_14 rfl (lv_at hl 0 rfl) ?_
      refine kget X hP oX g_X6_25 rfl dX6_tick_15 ?_
      refine lv_aload_n hx hb dX6_tick_18 rfl (lv_at hl 0 rfl) ?_
      refine kget X hP oX g_X6_12 rfl dX6_tick_19 ?_
      refine kcVv X hP hS (c_X2_record l hI (j := 0) (n := n) (k := k) (L := L) (pi := pi) (by omega) hL hL4 hpi hne hn hn4 hk hk4 hz hy) oH v_X6_44 ⟨Nat.le_of_ble_eq_true rfl, Nat.le_of_ble_eq_true rfl, rfl, rfl⟩ rfl rfl (Nat.le_of_ble_eq_true rfl) hl.1 ⟨Nat.zero_le _, Nat.zero_le _⟩ dX6_tick_22 (fun G_22 H locs hR hP hS => ?_)
      have h_22 : rcR G G_22 pi L n k := hR
      have e0 := rcR_0 h_22 hL4 hne
      refine lv_aload_n hx hb dX6_tick_25 rfl (lv_at hl 0 rfl) ?_
      refine kget X hP oX g_X6_12 rfl dX6_tick_26 ?_
      refine lv_iconst (v := nI 3) hx hb dX6_tick_29 (by decide) ?_
      refine kcV X hP hS (c_X4_readersIn l hI (j := 0) (n := n) (by omega) (by rw [e0 (sB 0) (by unfold sB; omega) (by unfold sB; omega) (by unfold sB; omega)]; exact hn) hn4) (oS (j := 0) (by omega)) v_X6_40 ⟨Nat.le_of_ble_eq_true rfl, Nat.le_of_ble_eq_true rfl, rfl, rfl⟩ rfl rfl (Nat.le_of_ble_eq_true rfl) hl.1 ⟨Nat.zero_le _, Nat.zero_le _⟩ dX6_tick_30 (fun r_30 G_30 H locs hR hP hS => ?_)
      obtain ⟨rfl, hG_30⟩ := hR
      rw [hG_30] at hP
      clear hG_30
      refine kist hx hb dX6_tick_33 rfl hl (by decide) (kp_2_2 rfl) (fun ls hl => ?_)
      refine lv_aload_n hx hb dX6_tick_34 rfl (lv_at hl 0 rfl) ?_
      refine kget X hP oX g_X6_12 rfl dX6_tick_35 ?_
      refine lv_iload_n hx hb dX6_tick_38 rfl (lv_at hl 1 rfl) ?_
      refine lv_iconst (v := (-1)) hx hb dX6_tick_39 (by decide) ?_
      refine kcVv X hP hS (c_X4_letTicksPass l hI (j := 0) (n := n) (K := K) (w := -1) (by omega) hn4 (by omega) (Z G_22) (Y G_22) (hw G_22) (fun i dc dc' G1 G2 P _ z1 z2 z3 => hs G_22 i dc dc' G1 G2 P z1 z2 z3) (fun i dc G1 z _ => hzz G_22 i dc G1 z) (h0 G_22 h_22)) (oS (j := 0) (by omega)) v_X6_95 ⟨Nat.le_of_ble_eq_true rfl, Nat.le_of_ble_eq_true rfl, rfl, rfl⟩ rfl rfl (Nat.le_of_ble_eq_true rfl) hl.1 ⟨Nat.zero_le _, Nat.zero_le _⟩ dX6_tick_40 (fun G_40 H locs hR hP hS => ?_)
      have h_40 : ∃ dc, Z G_22 K dc G_40 := by
        rcases hR with z | ⟨i, dc, r, z1, z2, z3, z4, z5⟩
        · exact z
        · exact absurd z4.symm (nI_m1 (by omega))
      obtain ⟨dc, h_40⟩ := h_40
      obtain ⟨P5, hP5⟩ := hw _ _ _ _ h_40
      have hn5 := hP5.1
      refine lv_aload_n hx hb dX6_tick_43 rfl (lv_at hl 0 rfl) ?_
      refine kget X hP oX g_X6_12 rfl dX6_tick_44 ?_
      refine lv_iconst (v := nI 3) hx hb dX6_tick_47 (by decide) ?_
      refine kcV X hP hS (c_X4_readersIn l hI (j := 0) (n := n) (by omega) hn5 hn4) (oS (j := 0) (by omega)) v_X6_40 ⟨Nat.le_of_ble_eq_true rfl, Nat.le_of_ble_eq_true rfl, rfl, rfl⟩ rfl rfl (Nat.le_of_ble_eq_true rfl) hl.1 ⟨Nat.zero_le _, Nat.zero_le _⟩ dX6_tick_48 (fun r_48 G_48 H locs hR hP hS => ?_)
      obtain ⟨rfl, hG_48⟩ := hR
      rw [hG_48] at hP
      clear hG_48
      refine lv_iload_n hx hb dX6_tick_51 rfl (lv_at hl 2 rfl) ?_
      refine lv_isub hx hb dX6_tick_52 ?_
      exact hret _ _ _ _ _ _ (by rw [if_pos ⟨Int32.not_lt.mp c_2, c_8⟩, nI_clamp hK32]; exact ⟨G_22, dc, h_22, h_40, rfl⟩) hP hS dX6_tick_53
    · skip
      refine lv_bipush (v := (-2)) hx hb dX6_tick_11 (by decide) ?_
      exact hret _ _ _ _ _ _ (by rw [if_neg (fun z => absurd z.2 c_8)]; exact ⟨rfl, rfl⟩) hP hS dX6_tick_13

set_option maxHeartbeats 4000000 in
set_option maxRecDepth 100000 in
theorem c_X6_lasts (l : Launch) {D : va_G} {τ : Nat → ClassId} {ad : Nat → Nat} (hI : kInj ad) {G : Nat → Nat → Int32} {n k : Nat} {x : Int32} (hn : G (sB 0) 6 = nI n) (hn4 : n ≤ 40) (hk : G (sB 0) 7 = nI k) (hk4 : k ≤ 40) (hz : ∀ r, r < n → G (rN 0 r) 8 = 0 ∨ G (rN 0 r) 8 = 1) (hy : G (sB 0) 9 = 0 ∨ G (sB 0) 9 = 1) (Z Y : Nat → (Nat → Nat → Int32) → Nat → Int32 → (Nat → Nat → Int32) → Prop) (hw : ∀ r Gr i dc G1, Z r Gr i dc G1 → ∃ P, PLS G1 1 n P) (hs : ∀ r Gr i dc dc' G1 G2 P, r < n → i < 200 → Z r Gr i dc G1 → PLS G1 1 n P → TKS G1 G2 1 n P dc dc' → Y r Gr (i + 1) dc' G2) (hzz : ∀ r Gr i dc G1, r < n → Y r Gr i dc G1 → G1 (rN 1 r) 1 = 0 → Z r Gr i dc G1) (h0 : ∀ r Gr, r < n → G (rN 0 r) 1 = 0 → CPY G Gr 1 0 n k → Z r Gr 0 (nI 1) Gr) : kM l yX6_lasts cX6_lasts 2 (some .int) { frames := 6, cells := 0, slots := 0, locals := 140 } D τ ad [.ref (ad 7), .int x] G (fun v G' => rdP n x (v = -1 ∧ G' = G) (fun r => if G (rN 0 r) 1 = 0 then ∃ Gr, CPY G Gr 1 0 n k ∧ ((∃ dc, Z r Gr 200 dc G') ∨ ∃ i dc, i ≤ 200 ∧ Y r Gr i dc G' ∧ ¬ G' (rN 1 r) 1 = 0) ∧ v = (if G' (rN 1 r) 1 = 0 then -5 else G' (sB 1) 4 - G' (sB 0) 4) else v = -4 ∧ G' = G)) := by
  refine kMet (own := RX6) (by decide) rfl (Nat.le_of_ble_eq_true rfl) ?_
  intro p9 e9 s9 m9 args9 below9 meth9 c9 Q9 X hx hb hP hS hret ls hl
  have hPs := hP
  have hl : lv_has ls 2 [(0, .ref (ad 7)), (1, .int x)] := hl
  refine lv_aload_n hx hb dX6_lasts_0 rfl (lv_at hl 0 rfl) ?_
  refine kget X hP oX g_X6_12 rfl dX6_lasts_1 ?_
  refine lv_iload_n hx hb dX6_lasts_4 rfl (lv_at hl 1 rfl) ?_
  refine kcV X hP hS (c_X4_hasReader l hI (j := 0) (by omega)) (oS (j := 0) (by omega)) v_X6_51 ⟨Nat.le_of_ble_eq_true rfl, Nat.le_of_ble_eq_true rfl, rfl, rfl⟩ rfl rfl (Nat.le_of_ble_eq_true rfl) hl.1 ⟨Nat.zero_le _, Nat.zero_le _⟩ dX6_lasts_5 (fun r_5 G_5 H locs hR hP hS => ?_)
  obtain ⟨rfl, hG_5⟩ := hR
  rw [hG_5] at hP
  clear hG_5
  first
    | refine kif_ne (tgt := 13) hx hb dX6_lasts_8 (by decide) (fun c_8 => ?_) (fun c_8 => ?_)
    | refine lv_if_ne (tgt := 13) hx hb dX6_lasts_8 (by decide) (fun c_8 => ?_) (fun c_8 => ?_)
  · skip
    obtain ⟨r, hr, rfl⟩ := hsR_yes hn4 (by rw [hn] at c_8; exact c_8)
    refine lv_aload_n hx hb dX6_lasts_13 rfl (lv_at hl 0 rfl) ?_
    refine kget X hP oX g_X6_12 rfl dX6_lasts_14 ?_
    refine kget X hP (oS (j := 0) (by omega)) g_X6_55 rfl dX6_lasts_17 ?_
    refine lv_iload_n hx hb dX6_lasts_20 rfl (lv_at hl 1 rfl) ?_
    refine kaald X hP (qR (j := 0) (by omega)) (by omega) rfl dX6_lasts_21 ?_
    refine kcV X hP hS (c_X3_isOpen l hI (j := 0) (by omega) (by omega)) (oR (j := 0) (r := r) (by omega) (by omega)) v_X6_59 ⟨Nat.le_of_ble_eq_true rfl, Nat.le_of_ble_eq_true rfl, rfl, rfl⟩ rfl rfl (Nat.le_of_ble_eq_true rfl) hl.1 ⟨Nat.zero_le _, Nat.zero_le _⟩ dX6_lasts_22 (fun r_22 G_22 H locs hR hP hS => ?_)
    obtain ⟨rfl, hG_22⟩ := hR
    rw [hG_22] at hP
    clear hG_22
    first
      | refine kif_ne (tgt := 31) hx hb dX6_lasts_25 (by decide) (fun c_25 => ?_) (fun c_25 => ?_)
      | refine lv_if_ne (tgt := 31) hx hb dX6_lasts_25 (by decide) (fun c_25 => ?_) (fun c_25 => ?_)
    · skip
      refine lv_aload_n hx hb dX6_lasts_31 rfl (lv_at hl 0 rfl) ?_
      refine kget X hP oX g_X6_16 rfl dX6_lasts_32 ?_
      refine lv_aload_n hx hb dX6_lasts_35 rfl (lv_at hl 0 rfl) ?_
      refine kget X hP oX g_X6_12 rfl dX6_lasts_36 ?_
      refine kcVv X hP hS (c_X4_copyFrom l hI (j := 1) (j2 := 0) (n := n) (k := k) (by omega) (by omega) (by omega) hn hn4 hk hk4 hz hy) (oS (j := 1) (by omega)) v_X6_169 ⟨Nat.le_of_ble_eq_true rfl, Nat.le_of_ble_eq_true rfl, rfl, rfl⟩ rfl rfl (Nat.le_of_ble_eq_true rfl) hl.1 ⟨Nat.zero_le _, Nat.zero_le _⟩ dX6_lasts_39 (fun G_39 H locs hR hP hS => ?_)
      have h_39 := hR
      refine lv_aload_n hx hb dX6_lasts_42 rfl (lv_at hl 0 rfl) ?_
      refine kget X hP oX g_X6_16 rfl dX6_lasts_43 ?_
      refine lv_sipush (v := nI 200) hx hb dX6_lasts_46 (by decide) ?_
      refine lv_iload_n hx hb dX6_lasts_49 rfl (lv_at hl 1 rfl) ?_
      refine kcVv X hP hS (c_X4_letTicksPass l hI (j := 1) (n := n) (K := 200) (w := nI r) (by omega) hn4 (by omega) (Z r G_39) (Y r G_39) (hw r G_39) (fun i dc dc' G1 G2 P z0 z1 z2 z3 => hs r G_39 i dc dc' G1 G2 P hr z0 z1 z2 z3) (fun i dc G1 z1 z2 => hzz r G_39 i dc G1 hr z1 (z2 r hr rfl)) (h0 r G_39 hr c_25 h_39)) (oS (j := 1) (by omega)) v_X6_95 ⟨Nat.le_of_ble_eq_true rfl, Nat.le_of_ble_eq_true rfl, rfl, rfl⟩ rfl rfl (Nat.le_of_ble_eq_true rfl) hl.1 ⟨Nat.zero_le _, Nat.zero_le _⟩ dX6_lasts_50 (fun G_50 H locs hR hP hS => ?_)
      have h_50 : (∃ dc, Z r G_39 200 dc G_50) ∨ ∃ i dc, i ≤ 200 ∧ Y r G_39 i dc G_50 ∧ ¬ G_50 (rN 1 r) 1 = 0 := by
        rcases hR with z | ⟨i, dc, t, z1, z2, z3, z4, z5⟩
        · exact Or.inl z
        · rw [← (nI_eq (by omega) (by omega)).mp z4] at z5
          exact Or.inr ⟨i, dc, z1, z2, z5⟩
      refine lv_aload_n hx hb dX6_lasts_53 rfl (lv_at hl 0 rfl) ?_
      refine kget X hP oX g_X6_16 rfl dX6_lasts_54 ?_
      refine kget X hP (oS (j := 1) (by omega)) g_X6_55 rfl dX6_lasts_57 ?_
      refine lv_iload_n hx hb dX6_lasts_60 rfl (lv_at hl 1 rfl) ?_
      refine kaald X hP (qR (j := 1) (by omega)) (by omega) rfl dX6_lasts_61 ?_
      refine kcV X hP hS (c_X3_isOpen l hI (j := 1) (r := r) (by omega) (by omega)) (oR (j := 1) (r := r) (by omega) (by omega)) v_X6_59 ⟨Nat.le_of_ble_eq_true rfl, Nat.le_of_ble_eq_true rfl, rfl, rfl⟩ rfl rfl (Nat.le_of_ble_eq_true rfl) hl.1 ⟨Nat.zero_le _, Nat.zero_le _⟩ dX6_lasts_62 (fun r_62 G_62 H locs hR hP hS => ?_)
      obtain ⟨rfl, hG_62⟩ := hR
      rw [hG_62] at hP
      clear hG_62
      first
        | refine kif_eq (tgt := 73) hx hb dX6_lasts_65 (by decide) (fun c_65 => ?_) (fun c_65 => ?_)
        | refine lv_if_eq (tgt := 73) hx hb dX6_lasts_65 (by decide) (fun c_65 => ?_) (fun c_65 => ?_)
      · skip
        refine lv_aload_n hx hb dX6_lasts_73 rfl (lv_at hl 0 rfl) ?_
        refine kget X hP oX g_X6_16 rfl dX6_lasts_74 ?_
        refine kget X hP (oS (j := 1) (by omega)) g_X6_207 rfl dX6_lasts_77 ?_
        refine lv_aload_n hx hb dX6_lasts_80 rfl (lv_at hl 0 rfl) ?_
        refine kget X hP oX g_X6_12 rfl dX6_lasts_81 ?_
        refine kget X hP (oS (j := 0) (by omega)) g_X6_207 rfl dX6_lasts_84 ?_
        refine lv_isub hx hb dX6_lasts_87 ?_
        exact hret _ _ _ _ _ _ (rdP_h hr hn4 (by rw [if_pos c_25]; exact ⟨_, h_39, h_50, by rw [if_neg c_65]⟩)) hP hS dX6_lasts_88
      · skip
        refine lv_bipush (v := (-5)) hx hb dX6_lasts_68 (by decide) ?_
        refine lv_goto (tgt := 88) hx hb dX6_lasts_70 (by decide) ?_
        exact hret _ _ _ _ _ _ (rdP_h hr hn4 (by rw [if_pos c_25]; exact ⟨_, h_39, h_50, by rw [if_pos c_65]⟩)) hP hS dX6_lasts_88
    · skip
      refine lv_bipush (v := (-4)) hx hb dX6_lasts_28 (by decide) ?_
      exact hret _ _ _ _ _ _ (rdP_h hr hn4 (by rw [if_neg c_25]; exact ⟨rfl, rfl⟩)) hP hS dX6_lasts_30
  · skip
    have hms := hsR_no hn4 (by rw [hn] at c_8; exact c_8)
    refine lv_iconst (v := (-1)) hx hb dX6_lasts_11 (by decide) ?_
    exact hret _ _ _ _ _ _ (rdP_m hms ⟨rfl, rfl⟩) hP hS dX6_lasts_12
