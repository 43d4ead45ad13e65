
theorem gs1_rw1 (G : Nat → Nat → Int32) (f : Nat) (x : Int32) : gs G 1 f x = rw1 G (upd (G 1) f x) := by
  rw [← rw1_s, rw1_id]
theorem brF_o {G : Nat → Nat → Int32} {c i k : Nat} (h : k ≠ 1) : brF G c i k = G k := by
  funext f
  unfold brF
  rw [if_neg (by omega)]
theorem caA_k {N : Nat → Int32} {r k mm V n : Nat} (hV : N 8 = nI V) (h2 : N 2 = nI n) : ∀ c, (caA N r k mm V c).1 8 = nI (caA N r k mm V c).2 ∧ (caA N r k mm V c).1 2 = nI n ∧ V ≤ (caA N r k mm V c).2 ∧ (caA N r k mm V c).2 ≤ V + c := by
  intro c
  induction c with
  | zero => exact ⟨by rw [caA]; dsimp only; rw [chN_lo (by omega)]; exact hV, by rw [caA]; dsimp only; rw [chN_lo (by omega)]; exact h2, Nat.le_refl _, Nat.le_refl _⟩
  | succ c ih =>
    obtain ⟨a, b, d, e⟩ := ih
    rw [caA, caS]
    split
    · refine ⟨by dsimp only; exact upd_eq, ?_, by show V ≤ _ + 1; omega, by show _ + 1 ≤ _; omega⟩
      dsimp only
      rw [upd_ne (by omega), upd_ne (by omega), upd_ne (by omega), upd_ne (by omega)]; exact b
    · exact ⟨a, b, d, by omega⟩
/-- the reader committed, its writes among the versions -/
def cdN (N : Nat → Int32) (r k mm V : Nat) : (Nat → Int32) × Nat := if N (9 + 20 * r + 4) = 0 then (upd N (9 + 20 * r + 2) (nI 1), V) else caA (upd N (9 + 20 * r + 2) (nI 1)) r k mm V 12
def cmN (N : Nat → Int32) (r k mm n V : Nat) : Nat → Int32 := rmN (cdN N r k mm V).1 n (cdN N r k mm V).2
def cmV (N : Nat → Int32) (r k mm n V : Nat) : Nat := (rmD (cdN N r k mm V).1 n (cdN N r k mm V).2 (cdN N r k mm V).2).2.1
theorem cdN_k {N : Nat → Int32} {r k mm V n : Nat} (hV : N 8 = nI V) (h2 : N 2 = nI n) : (cdN N r k mm V).1 8 = nI (cdN N r k mm V).2 ∧ (cdN N r k mm V).1 2 = nI n ∧ V ≤ (cdN N r k mm V).2 ∧ (cdN N r k mm V).2 ≤ V + 12 := by
  unfold cdN
  split
  · exact ⟨by dsimp only; rw [upd_ne (by omega)]; exact hV, by dsimp only; rw [upd_ne (by omega)]; exact h2, Nat.le_refl _, Nat.le_add_right _ _⟩
  · exact caA_k (by rw [upd_ne (by omega)]; exact hV) (by rw [upd_ne (by omega)]; exact h2) 12
theorem cmN_k {N : Nat → Int32} {r k mm V n : Nat} (hV : N 8 = nI V) (h2 : N 2 = nI n) (h1 : 1 ≤ V) : cmN N r k mm n V 8 = nI (cmV N r k mm n V) ∧ cmN N r k mm n V 2 = nI n ∧ 1 ≤ cmV N r k mm n V ∧ cmV N r k mm n V ≤ V + 12 := by
  obtain ⟨a, b, c, d⟩ := cdN_k (r := r) (k := k) (mm := mm) hV h2
  obtain ⟨e, f, g, h⟩ := rmN_8 a b (by omega)
  exact ⟨e, f, g, Nat.le_trans h d⟩
/-- as before, where the program looks -/
def agR (G Gt : Nat → Nat → Int32) : Prop := (∀ q, q ≠ 1 → q ≠ 2 → Gt q = G q) ∧ (∀ f, f < 1201 → Gt 1 f = G 1 f) ∧ ∀ f, f < 6005 → Gt 2 f = G 2 f
theorem agR_b (G : Nat → Nat → Int32) (N : Nat → Int32) : agR G (brF (rw1 (kpF G 5 1201) N) 5 1201) := by
  refine ⟨fun q h1 h2 => ?_, fun f hf => ?_, fun f hf => ?_⟩
  · rw [brF_o h1, rw1_o h1]
    funext f
    unfold kpF
    rw [if_neg (by omega)]
  · unfold brF
    rw [if_pos ⟨rfl, hf⟩, rw1_o (by omega)]
    unfold kpF
    rw [if_pos (by omega), show 5 * 1201 + f - 5 * 1201 = f by omega]
  · rw [brF_o (by omega), rw1_o (by omega)]
    unfold kpF
    rw [if_neg (by omega)]
set_option maxHeartbeats 4000000 in
set_option maxRecDepth 100000 in
theorem c_X7_commitsFor (l : Launch) {D : va_G} {τ : Nat → ClassId} {ad : Nat → Nat} (hI : kInj ad) {G : Nat → Nat → Int32} {Wn n k mm r L : Nat} (hW : brF G 5 1201 1 8 = nI Wn) (hW1 : 1 ≤ Wn) (hW5 : Wn ≤ 52) (hn : brF G 5 1201 1 2 = nI n) (hn4 : n ≤ 40) (hk : brF G 5 1201 1 6 = nI k) (hk4 : k < 40) (hm : brF G 5 1201 1 0 = nI mm) (hr : r < 40) (hL : G 0 2 = nI L) (hL4 : L ≤ 4) : kM l yX7_commitsFor cX7_commitsFor 2 (some .int) { frames := 5, cells := 0, slots := 0, locals := 117 } D τ ad [.ref (ad 0), .int (nI r)] G (fun v G' => v = cmN (brF G 5 1201 1) r k mm n Wn 0 ∧ G' = rw1 (recM (brF G 5 1201) L) (cmN (brF G 5 1201 1) r k mm n Wn)) := by
  refine kMet (own := RX7) (by decide) rfl (Nat.le_of_ble_eq_true rfl) ?_
  intro p9 e9 s9 m9 args9 below9 meth9 c9 Q9 X hx hb hP hS hret ls hl
  have hPs := hP
  have hl : lv_has ls 2 [(0, .ref (ad 0)), (1, .int (nI r))] := hl
  refine lv_aload_n hx hb dX7_commitsFor_0 rfl (lv_at hl 0 rfl) ?_
  refine lv_iconst (v := nI 5) hx hb dX7_commitsFor_1 (by decide) ?_
  refine kcVv X hP hS (c_X7_brings l hI (by omega)) oJ v_X7_44 ⟨Nat.le_of_ble_eq_true rfl, Nat.le_of_ble_eq_true rfl, rfl, rfl⟩ rfl rfl (Nat.le_of_ble_eq_true rfl) hl.1 ⟨Nat.zero_le _, Nat.zero_le _⟩ dX7_commitsFor_2 (fun G_2 H locs hR hP hS => ?_)
  subst hR
  refine lv_aload_n hx hb dX7_commitsFor_5 rfl (lv_at hl 0 rfl) ?_
  refine kcVv X hP hS (c_X7_records l hI (L := L) (by rw [brF_o (by omega)]; exact hL) hL4) oJ v_X7_51 ⟨Nat.le_of_ble_eq_true rfl, Nat.le_of_ble_eq_true rfl, rfl, rfl⟩ rfl rfl (Nat.le_of_ble_eq_true rfl) hl.1 ⟨Nat.zero_le _, Nat.zero_le _⟩ dX7_commitsFor_6 (fun G_6 H locs hR hP hS => ?_)
  subst hR
  refine lv_aload_n hx hb dX7_commitsFor_9 rfl (lv_at hl 0 rfl) ?_
  refine lv_iload_n hx hb dX7_commitsFor_10 rfl (lv_at hl 1 rfl) ?_
  refine lv_iconst (v := nI 2) hx hb dX7_commitsFor_11 (by decide) ?_
  refine lv_iconst (v := nI 1) hx hb dX7_commitsFor_12 (by decide) ?_
  refine kcVv X hP hS (c_X7_setsR l hI (by omega)) oJ v_X7_88 ⟨Nat.le_of_ble_eq_true rfl, Nat.le_of_ble_eq_true rfl, rfl, rfl⟩ rfl rfl (Nat.le_of_ble_eq_true rfl) hl.1 ⟨Nat.zero_le _, Nat.zero_le _⟩ dX7_commitsFor_13 (fun G_13 H locs hR hP hS => ?_)
  subst hR
  rw [gs1_rw1, recM_1] at hP
  refine lv_aload_n hx hb dX7_commitsFor_16 rfl (lv_at hl 0 rfl) ?_
  refine lv_iload_n hx hb dX7_commitsFor_17 rfl (lv_at hl 1 rfl) ?_
  refine lv_iconst (v := nI 4) hx hb dX7_commitsFor_18 (by decide) ?_
  refine kcV X hP hS (c_X7_ofR l hI (by first | assumption | omega)) oJ v_X7_32 ⟨Nat.le_of_ble_eq_true rfl, Nat.le_of_ble_eq_true rfl, rfl, rfl⟩ rfl rfl (Nat.le_of_ble_eq_true rfl) hl.1 ⟨Nat.zero_le _, Nat.zero_le _⟩ dX7_commitsFor_19 (fun r_19 G_19 H locs hR hP hS => ?_)
  obtain ⟨rfl, hG_19⟩ := hR
  rw [hG_19] at hP
  clear hG_19
  rw [rw1_1, upd_ne (by omega)]
  have hcd := cdN_k (r := r) (k := k) (mm := mm) (V := Wn) (n := n) (N := brF G 5 1201 1) hW hn
  first
    | refine kif_eq (tgt := 30) hx hb dX7_commitsFor_22 (by decide) (fun c_22 => ?_) (fun c_22 => ?_)
    | refine lv_if_eq (tgt := 30) hx hb dX7_commitsFor_22 (by decide) (fun c_22 => ?_) (fun c_22 => ?_)
  · skip
    rw [show (upd (brF G 5 1201 1) (9 + 20 * r + 2) (nI 1)) = (cdN (brF G 5 1201 1) r k mm Wn).1 from by rw [cdN, if_pos c_22]] at hP
    refine lv_aload_n hx hb dX7_commitsFor_30 rfl (lv_at hl 0 rfl) ?_
    refine kcV X hP hS (c_X7_removes l hI (Wn := (cdN (brF G 5 1201 1) r k mm Wn).2) (n := n) (by rw [rw1_1]; exact hcd.1) (by omega) (by omega) (by rw [rw1_1]; exact hcd.2.1) hn4) oJ v_X7_98 ⟨Nat.le_of_ble_eq_true rfl, Nat.le_of_ble_eq_true rfl, rfl, rfl⟩ rfl rfl (Nat.le_of_ble_eq_true rfl) hl.1 ⟨Nat.zero_le _, Nat.zero_le _⟩ dX7_commitsFor_31 (fun r_31 G_31 H locs hR hP hS => ?_)
    obtain ⟨rfl, hG_31⟩ := hR
    rw [rw1_rw1, rw1_1, show rmN (cdN (brF G 5 1201 1) r k mm Wn).1 n (cdN (brF G 5 1201 1) r k mm Wn).2 = cmN (brF G 5 1201 1) r k mm n Wn from rfl] at hG_31
    subst hG_31
    refine lv_pop hx hb dX7_commitsFor_34 rfl ?_
    refine lv_aload_n hx hb dX7_commitsFor_35 rfl (lv_at hl 0 rfl) ?_
    refine kget X hP oJ g_X7_7 rfl dX7_commitsFor_36 ?_
    refine lv_iconst (v := nI 0) hx hb dX7_commitsFor_39 (by decide) ?_
    refine kiald X hP aJ1 (by omega) dX7_commitsFor_40 ?_
    rw [rw1_1]
    exact hret _ _ _ _ _ _ (⟨rfl, rfl⟩) hP hS dX7_commitsFor_41
  · skip
    refine lv_aload_n hx hb dX7_commitsFor_25 rfl (lv_at hl 0 rfl) ?_
    refine lv_iload_n hx hb dX7_commitsFor_26 rfl (lv_at hl 1 rfl) ?_
    refine kcVv X hP hS (c_X7_commits l hI (Wn := Wn) (k := k) (mm := mm) (r := r) (by rw [rw1_1, upd_ne (by omega)]; exact hW) hW5 (by rw [rw1_1, upd_ne (by omega)]; exact hk) hk4 (by rw [rw1_1, upd_ne (by omega)]; exact hm) hr) oJ v_X7_136 ⟨Nat.le_of_ble_eq_true rfl, Nat.le_of_ble_eq_true rfl, rfl, rfl⟩ rfl rfl (Nat.le_of_ble_eq_true rfl) hl.1 ⟨Nat.zero_le _, Nat.zero_le _⟩ dX7_commitsFor_27 (fun G_27 H locs hR hP hS => ?_)
    subst hR
    rw [rw1_rw1, rw1_1, show coN (upd (brF G 5 1201 1) (9 + 20 * r + 2) (nI 1)) r k mm Wn = (cdN (brF G 5 1201 1) r k mm Wn).1 from by rw [cdN, if_neg c_22, coN]] at hP
    refine lv_aload_n hx hb dX7_commitsFor_30 rfl (lv_at hl 0 rfl) ?_
    refine kcV X hP hS (c_X7_removes l hI (Wn := (cdN (brF G 5 1201 1) r k mm Wn).2) (n := n) (by rw [rw1_1]; exact hcd.1) (by omega) (by omega) (by rw [rw1_1]; exact hcd.2.1) hn4) oJ v_X7_98 ⟨Nat.le_of_ble_eq_true rfl, Nat.le_of_ble_eq_true rfl, rfl, rfl⟩ rfl rfl (Nat.le_of_ble_eq_true rfl) hl.1 ⟨Nat.zero_le _, Nat.zero_le _⟩ dX7_commitsFor_31 (fun r_31 G_31 H locs hR hP hS => ?_)
    obtain ⟨rfl, hG_31⟩ := hR
    rw [rw1_rw1, rw1_1, show rmN (cdN (brF G 5 1201 1) r k mm Wn).1 n (cdN (brF G 5 1201 1) r k mm Wn).2 = cmN (brF G 5 1201 1) r k mm n Wn from rfl] at hG_31
    subst hG_31
    refine lv_pop hx hb dX7_commitsFor_34 rfl ?_
    refine lv_aload_n hx hb dX7_commitsFor_35 rfl (lv_at hl 0 rfl) ?_
    refine kget X hP oJ g_X7_7 rfl dX7_commitsFor_36 ?_
    refine lv_iconst (v := nI 0) hx hb dX7_commitsFor_39 (by decide) ?_
    refine kiald X hP aJ1 (by omega) dX7_commitsFor_40 ?_
    rw [rw1_1]
    exact hret _ _ _ _ _ _ (⟨rfl, rfl⟩) hP hS dX7_commitsFor_41

set_option maxHeartbeats 4000000 in
set_option maxRecDepth 100000 in
theorem c_X7_commit (l : Launch) {D : va_G} {τ : Nat → ClassId} {ad : Nat → Nat} (hI : kInj ad) {G : Nat → Nat → Int32} {Wn n k mm L : Nat} {x : Int32} (hW : G 1 8 = nI Wn) (hW1 : 1 ≤ Wn) (hW5 : Wn ≤ 52) (hn : G 1 2 = nI n) (hn4 : n ≤ 40) (hk : G 1 6 = nI k) (hkk : ∀ r, r < n → G 1 (9 + 20 * r + 2) = 0 → k < 40) (hk4 : k ≤ 40) (hm : G 1 0 = nI mm) (hL : G 0 2 = nI L) (hL4 : L ≤ 4) : kM l yX7_commit cX7_commit 2 (some .int) { frames := 6, cells := 0, slots := 0, locals := 138 } D τ ad [.ref (ad 0), .int x] G (fun v G' => rdP n x (v = -1 ∧ G' = G) (fun r => if G 1 (9 + 20 * r + 2) = 0 then (if cn (cfM (G 1) Wn r) 12 ≠ 0 then v = -6 ∧ G' = G else if G 1 7 = nI 1 ∧ ¬ nI (cn (ssM (G 1) r) k) ≤ 0 then v = -4 ∧ G' = G else if nI 40 < nI (cmV (G 1) r k mm n Wn) - nI 12 then v = -3 ∧ agR G G' else ∃ Gt, agR G Gt ∧ v = cmN (Gt 1) r k mm n Wn 0 ∧ G' = rw1 (recM Gt L) (cmN (Gt 1) r k mm n Wn)) else v = -4 ∧ G' = G)) := by
  refine kMet (own := RX7) (by decide) rfl (Nat.le_of_ble_eq_true rfl) ?_
  intro p9 e9 s9 m9 args9 below9 meth9 c9 Q9 X hx hb hP hS hret ls hl
  have hPs := hP
  have hl : lv_has ls 2 [(0, .ref (ad 0)), (1, .int x)] := hl
  refine lv_aload_n hx hb dX7_commit_0 rfl (lv_at hl 0 rfl) ?_
  refine lv_iload_n hx hb dX7_commit_1 rfl (lv_at hl 1 rfl) ?_
  refine kcV X hP hS (c_X7_isReader l hI) oJ v_X7_92 ⟨Nat.le_of_ble_eq_true rfl, Nat.le_of_ble_eq_true rfl, rfl, rfl⟩ rfl rfl (Nat.le_of_ble_eq_true rfl) hl.1 ⟨Nat.zero_le _, Nat.zero_le _⟩ dX7_commit_2 (fun r_2 G_2 H locs hR hP hS => ?_)
  obtain ⟨rfl, hG_2⟩ := hR
  rw [hG_2] at hP
  clear hG_2
  first
    | refine kif_ne (tgt := 10) hx hb dX7_commit_5 (by decide) (fun c_5 => ?_) (fun c_5 => ?_)
    | refine lv_if_ne (tgt := 10) hx hb dX7_commit_5 (by decide) (fun c_5 => ?_) (fun c_5 => ?_)
  · skip
    obtain ⟨r, hr, rfl⟩ := isR_yes hn4 (by rw [hn] at c_5; exact c_5)
    refine lv_aload_n hx hb dX7_commit_10 rfl (lv_at hl 0 rfl) ?_
    refine lv_iload_n hx hb dX7_commit_11 rfl (lv_at hl 1 rfl) ?_
    refine kcV X hP hS (c_X7_isOpen l hI (by first | assumption | omega)) oJ v_X7_64 ⟨Nat.le_of_ble_eq_true rfl, Nat.le_of_ble_eq_true rfl, rfl, rfl⟩ rfl rfl (Nat.le_of_ble_eq_true rfl) hl.1 ⟨Nat.zero_le _, Nat.zero_le _⟩ dX7_commit_12 (fun r_12 G_12 H locs hR hP hS => ?_)
    obtain ⟨rfl, hG_12⟩ := hR
    rw [hG_12] at hP
    clear hG_12
    first
      | refine kif_ne (tgt := 21) hx hb dX7_commit_15 (by decide) (fun c_15 => ?_) (fun c_15 => ?_)
      | refine lv_if_ne (tgt := 21) hx hb dX7_commit_15 (by decide) (fun c_15 => ?_) (fun c_15 => ?_)
    · skip
      refine lv_aload_n hx hb dX7_commit_21 rfl (lv_at hl 0 rfl) ?_
      refine lv_iload_n hx hb dX7_commit_22 rfl (lv_at hl 1 rfl) ?_
      refine kcV X hP hS (c_X7_hasConflict l hI hW hW1 (by omega) (by omega)) oJ v_X7_130 ⟨Nat.le_of_ble_eq_true rfl, Nat.le_of_ble_eq_true rfl, rfl, rfl⟩ rfl rfl (Nat.le_of_ble_eq_true rfl) hl.1 ⟨Nat.zero_le _, Nat.zero_le _⟩ dX7_commit_23 (fun r_23 G_23 H locs hR hP hS => ?_)
      obtain ⟨rfl, hG_23⟩ := hR
      rw [hG_23] at hP
      clear hG_23
      first
        | refine kif_eq (tgt := 32) hx hb dX7_commit_26 (by decide) (fun c_26 => ?_) (fun c_26 => ?_)
        | refine lv_if_eq (tgt := 32) hx hb dX7_commit_26 (by decide) (fun c_26 => ?_) (fun c_26 => ?_)
      · skip
        refine lv_aload_n hx hb dX7_commit_32 rfl (lv_at hl 0 rfl) ?_
        refine kget X hP oJ g_X7_7 rfl dX7_commit_33 ?_
        refine lv_bipush (v := nI 7) hx hb dX7_commit_36 (by decide) ?_
        refine kiald X hP aJ1 (by omega) dX7_commit_38 ?_
        refine lv_iconst (v := nI 1) hx hb dX7_commit_39 (by decide) ?_
        first
          | refine kic_ne (tgt := 54) hx hb dX7_commit_40 (by decide) (by with_reducible rfl) (by with_reducible rfl) (by omega) (by omega) (fun c_40 => ?_) (fun c_40 => ?_)
          | refine lv_icmp_ne (tgt := 54) hx hb dX7_commit_40 (by decide) (fun c_40 => ?_) (fun c_40 => ?_)
        · skip
          refine lv_aload_n hx hb dX7_commit_54 rfl (lv_at hl 0 rfl) ?_
          refine lv_iconst (v := nI 5) hx hb dX7_commit_55 (by decide) ?_
          refine kcVv X hP hS (c_X7_keeps l hI (by omega)) oJ v_X7_40 ⟨Nat.le_of_ble_eq_true rfl, Nat.le_of_ble_eq_true rfl, rfl, rfl⟩ rfl rfl (Nat.le_of_ble_eq_true rfl) hl.1 ⟨Nat.zero_le _, Nat.zero_le _⟩ dX7_commit_56 (fun G_56 H locs hR hP hS => ?_)
          subst hR
          refine lv_aload_n hx hb dX7_commit_59 rfl (lv_at hl 0 rfl) ?_
          refine lv_iload_n hx hb dX7_commit_60 rfl (lv_at hl 1 rfl) ?_
          refine lv_iconst (v := nI 2) hx hb dX7_commit_61 (by decide) ?_
          refine lv_iconst (v := nI 1) hx hb dX7_commit_62 (by decide) ?_
          refine kcVv X hP hS (c_X7_setsR l hI (by omega)) oJ v_X7_88 ⟨Nat.le_of_ble_eq_true rfl, Nat.le_of_ble_eq_true rfl, rfl, rfl⟩ rfl rfl (Nat.le_of_ble_eq_true rfl) hl.1 ⟨Nat.zero_le _, Nat.zero_le _⟩ dX7_commit_63 (fun G_63 H locs hR hP hS => ?_)
          subst hR
          rw [gs1_rw1, (show kpF G 5 1201 1 = G 1 from by funext f; unfold kpF; rw [if_neg (by omega)])] at hP
          refine lv_aload_n hx hb dX7_commit_66 rfl (lv_at hl 0 rfl) ?_
          refine lv_iload_n hx hb dX7_commit_67 rfl (lv_at hl 1 rfl) ?_
          refine lv_iconst (v := nI 4) hx hb dX7_commit_68 (by decide) ?_
          refine kcV X hP hS (c_X7_ofR l hI (by first | assumption | omega)) oJ v_X7_32 ⟨Nat.le_of_ble_eq_true rfl, Nat.le_of_ble_eq_true rfl, rfl, rfl⟩ rfl rfl (Nat.le_of_ble_eq_true rfl) hl.1 ⟨Nat.zero_le _, Nat.zero_le _⟩ dX7_commit_69 (fun r_69 G_69 H locs hR hP hS => ?_)
          obtain ⟨rfl, hG_69⟩ := hR
          rw [hG_69] at hP
          clear hG_69
          have hr40 : r < 40 := by omega
          have hk4 := hkk r hr c_15
          rw [rw1_1, upd_ne (by omega)]
          have hcd := cdN_k (r := r) (k := k) (mm := mm) (V := Wn) (n := n) (N := G 1) hW hn
          first
            | refine kif_eq (tgt := 80) hx hb dX7_commit_72 (by decide) (fun c_72 => ?_) (fun c_72 => ?_)
            | refine lv_if_eq (tgt := 80) hx hb dX7_commit_72 (by decide) (fun c_72 => ?_) (fun c_72 => ?_)
          · skip
            rw [show (upd (G 1) (9 + 20 * r + 2) (nI 1)) = (cdN (G 1) r k mm Wn).1 from by rw [cdN, if_pos c_72]] at hP
            refine lv_aload_n hx hb dX7_commit_80 rfl (lv_at hl 0 rfl) ?_
            refine kcV X hP hS (c_X7_removes l hI (Wn := (cdN (G 1) r k mm Wn).2) (n := n) (by rw [rw1_1]; exact hcd.1) (by omega) (by omega) (by rw [rw1_1]; exact hcd.2.1) hn4) oJ v_X7_98 ⟨Nat.le_of_ble_eq_true rfl, Nat.le_of_ble_eq_true rfl, rfl, rfl⟩ rfl rfl (Nat.le_of_ble_eq_true rfl) hl.1 ⟨Nat.zero_le _, Nat.zero_le _⟩ dX7_commit_81 (fun r_81 G_81 H locs hR hP hS => ?_)
            obtain ⟨rfl, hG_81⟩ := hR
            rw [rw1_rw1, rw1_1, show rmN (cdN (G 1) r k mm Wn).1 n (cdN (G 1) r k mm Wn).2 = cmN (G 1) r k mm n Wn from rfl] at hG_81
            subst hG_81
            have hck := cmN_k (r := r) (k := k) (mm := mm) hW hn hW1
            refine lv_pop hx hb dX7_commit_84 rfl ?_
            refine lv_aload_n hx hb dX7_commit_85 rfl (lv_at hl 0 rfl) ?_
            refine kcV X hP hS (c_X7_oldMany l hI (Wn := cmV (G 1) r k mm n Wn) (by rw [rw1_1]; exact hck.1)) oJ v_X7_139 ⟨Nat.le_of_ble_eq_true rfl, Nat.le_of_ble_eq_true rfl, rfl, rfl⟩ rfl rfl (Nat.le_of_ble_eq_true rfl) hl.1 ⟨Nat.zero_le _, Nat.zero_le _⟩ dX7_commit_86 (fun r_86 G_86 H locs hR hP hS => ?_)
            obtain ⟨rfl, hG_86⟩ := hR
            rw [hG_86] at hP
            clear hG_86
            have hag := agR_b G (cmN (G 1) r k mm n Wn)
            refine lv_bipush (v := nI 40) hx hb dX7_commit_89 (by decide) ?_
            first
              | refine kic_le (tgt := 102) hx hb dX7_commit_91 (by decide) (by with_reducible rfl) (by with_reducible rfl) (by omega) (by omega) (fun c_91 => ?_) (fun c_91 => ?_)
              | refine lv_icmp_le (tgt := 102) hx hb dX7_commit_91 (by decide) (fun c_91 => ?_) (fun c_91 => ?_)
            · skip
              refine lv_aload_n hx hb dX7_commit_102 rfl (lv_at hl 0 rfl) ?_
              refine lv_iload_n hx hb dX7_commit_103 rfl (lv_at hl 1 rfl) ?_
              refine kcV X hP hS (c_X7_commitsFor l hI (Wn := Wn) (n := n) (k := k) (mm := mm) (L := L) (r := r) (by rw [hag.2.1 _ (by omega)]; exact hW) hW1 hW5 (by rw [hag.2.1 _ (by omega)]; exact hn) hn4 (by rw [hag.2.1 _ (by omega)]; exact hk) hk4 (by rw [hag.2.1 _ (by omega)]; exact hm) (by omega) (by rw [rw1_o (by omega)]; unfold kpF; rw [if_neg (by omega)]; exact hL) hL4) oJ v_X7_142 ⟨Nat.le_of_ble_eq_true rfl, Nat.le_of_ble_eq_true rfl, rfl, rfl⟩ rfl rfl (Nat.le_of_ble_eq_true rfl) hl.1 ⟨Nat.zero_le _, Nat.zero_le _⟩ dX7_commit_104 (fun r_104 G_104 H locs hR hP hS => ?_)
              have h_104 := hR
              exact hret _ _ _ _ _ _ (rdP_h hr (by omega) (by rw [if_pos c_15, if_neg c_26, if_neg (fun z => c_40 z.1), if_neg (Int32.not_lt.mpr c_91)]; exact ⟨_, hag, hR⟩)) hP hS dX7_commit_107
            · skip
              refine lv_aload_n hx hb dX7_commit_94 rfl (lv_at hl 0 rfl) ?_
              refine lv_iconst (v := nI 5) hx hb dX7_commit_95 (by decide) ?_
              refine kcVv X hP hS (c_X7_brings l hI (by omega)) oJ v_X7_44 ⟨Nat.le_of_ble_eq_true rfl, Nat.le_of_ble_eq_true rfl, rfl, rfl⟩ rfl rfl (Nat.le_of_ble_eq_true rfl) hl.1 ⟨Nat.zero_le _, Nat.zero_le _⟩ dX7_commit_96 (fun G_96 H locs hR hP hS => ?_)
              subst hR
              refine lv_bipush (v := (-3)) hx hb dX7_commit_99 (by decide) ?_
              exact hret _ _ _ _ _ _ (rdP_h hr (by omega) (by rw [if_pos c_15, if_neg c_26, if_neg (fun z => c_40 z.1), if_pos (Int32.not_le.mp c_91)]; exact ⟨rfl, hag⟩)) hP hS dX7_commit_101
          · skip
            refine lv_aload_n hx hb dX7_commit_75 rfl (lv_at hl 0 rfl) ?_
            refine lv_iload_n hx hb dX7_commit_76 rfl (lv_at hl 1 rfl) ?_
            refine kcVv X hP hS (c_X7_commits l hI (Wn := Wn) (k := k) (mm := mm) (r := r) (by rw [rw1_1, upd_ne (by omega)]; exact hW) hW5 (by rw [rw1_1, upd_ne (by omega)]; exact hk) hk4 (by rw [rw1_1, upd_ne (by omega)]; exact hm) hr40) oJ v_X7_136 ⟨Nat.le_of_ble_eq_true rfl, Nat.le_of_ble_eq_true rfl, rfl, rfl⟩ rfl rfl (Nat.le_of_ble_eq_true rfl) hl.1 ⟨Nat.zero_le _, Nat.zero_le _⟩ dX7_commit_77 (fun G_77 H locs hR hP hS => ?_)
            subst hR
            rw [rw1_rw1, rw1_1, show coN (upd (G 1) (9 + 20 * r + 2) (nI 1)) r k mm Wn = (cdN (G 1) r k mm Wn).1 from by rw [cdN, if_neg c_72, coN]] at hP
            refine lv_aload_n hx hb dX7_commit_80 rfl (lv_at hl 0 rfl) ?_
            refine kcV X hP hS (c_X7_removes l hI (Wn := (cdN (G 1) r k mm Wn).2) (n := n) (by rw [rw1_1]; exact hcd.1) (by omega) (by omega) (by rw [rw1_1]; exact hcd.2.1) hn4) oJ v_X7_98 ⟨Nat.le_of_ble_eq_true rfl, Nat.le_of_ble_eq_true rfl, rfl, rfl⟩ rfl rfl (Nat.le_of_ble_eq_true rfl) hl.1 ⟨Nat.zero_le _, Nat.zero_le _⟩ dX7_commit_81 (fun r_81 G_81 H locs hR hP hS => ?_)
            obtain ⟨rfl, hG_81⟩ := hR
            rw [rw1_rw1, rw1_1, show rmN (cdN (G 1) r k mm Wn).1 n (cdN (G 1) r k mm Wn).2 = cmN (G 1) r k mm n Wn from rfl] at hG_81
            subst hG_81
            have hck := cmN_k (r := r) (k := k) (mm := mm) hW hn hW1
            refine lv_pop hx hb dX7_commit_84 rfl ?_
            refine lv_aload_n hx hb dX7_commit_85 rfl (lv_at hl 0 rfl) ?_
            refine kcV X hP hS (c_X7_oldMany l hI (Wn := cmV (G 1) r k mm n Wn) (by rw [rw1_1]; exact hck.1)) oJ v_X7_139 ⟨Nat.le_of_ble_eq_true rfl, Nat.le_of_ble_eq_true rfl, rfl, rfl⟩ rfl rfl (Nat.le_of_ble_eq_true rfl) hl.1 ⟨Nat.zero_le _, Nat.zero_le _⟩ dX7_commit_86 (fun r_86 G_86 H locs hR hP hS => ?_)
            obtain ⟨rfl, hG_86⟩ := hR
            rw [hG_86] at hP
            clear hG_86
            have hag := agR_b G (cmN (G 1) r k mm n Wn)
            refine lv_bipush (v := nI 40) hx hb dX7_commit_89 (by decide) ?_
            first
              | refine kic_le (tgt := 102) hx hb dX7_commit_91 (by decide) (by with_reducible rfl) (by with_reducible rfl) (by omega) (by omega) (fun c_91 => ?_) (fun c_91 => ?_)
              | refine lv_icmp_le (tgt := 102) hx hb dX7_commit_91 (by decide) (fun c_91 => ?_) (fun c_91 => ?_)
            · skip
              refine lv_aload_n hx hb dX7_commit_102 rfl (lv_at hl 0 rfl) ?_
              refine lv_iload_n hx hb dX7_commit_103 rfl (lv_at hl 1 rfl) ?_
              refine kcV X hP hS (c_X7_commitsFor l hI (Wn := Wn) (n := n) (k := k) (mm := mm) (L := L) (r := r) (by rw [hag.2.1 _ (by omega)]; exact hW) hW1 hW5 (by rw [hag.2.1 _ (by omega)]; exact hn) hn4 (by rw [hag.2.1 _ (by omega)]; exact hk) hk4 (by rw [hag.2.1 _ (by omega)]; exact hm) (by omega) (by rw [rw1_o (by omega)]; unfold kpF; rw [if_neg (by omega)]; exact hL) hL4) oJ v_X7_142 ⟨Nat.le_of_ble_eq_true rfl, Nat.le_of_ble_eq_true rfl, rfl, rfl⟩ rfl rfl (Nat.le_of_ble_eq_true rfl) hl.1 ⟨Nat.zero_le _, Nat.zero_le _⟩ dX7_commit_104 (fun r_104 G_104 H locs hR hP hS => ?_)
              have h_104 := hR
              exact hret _ _ _ _ _ _ (rdP_h hr (by omega) (by rw [if_pos c_15, if_neg c_26, if_neg (fun z => c_40 z.1), if_neg (Int32.not_lt.mpr c_91)]; exact ⟨_, hag, hR⟩)) hP hS dX7_commit_107
            · skip
              refine lv_aload_n hx hb dX7_commit_94 rfl (lv_at hl 0 rfl) ?_
              refine lv_iconst (v := nI 5) hx hb dX7_commit_95 (by decide) ?_
              refine kcVv X hP hS (c_X7_brings l hI (by omega)) oJ v_X7_44 ⟨Nat.le_of_ble_eq_true rfl, Nat.le_of_ble_eq_true rfl, rfl, rfl⟩ rfl rfl (Nat.le_of_ble_eq_true rfl) hl.1 ⟨Nat.zero_le _, Nat.zero_le _⟩ dX7_commit_96 (fun G_96 H locs hR hP hS => ?_)
              subst hR
              refine lv_bipush (v := (-3)) hx hb dX7_commit_99 (by decide) ?_
              exact hret _ _ _ _ _ _ (rdP_h hr (by omega) (by rw [if_pos c_15, if_neg c_26, if_neg (fun z => c_40 z.1), if_pos (Int32.not_le.mp c_91)]; exact ⟨rfl, hag⟩)) hP hS dX7_commit_101
        · skip
          refine lv_aload_n hx hb dX7_commit_43 rfl (lv_at hl 0 rfl) ?_
          refine lv_iload_n hx hb dX7_commit_44 rfl (lv_at hl 1 rfl) ?_
          refine kcV X hP hS (c_X7_skewsOf l hI hk (by omega) (by omega)) oJ v_X7_133 ⟨Nat.le_of_ble_eq_true rfl, Nat.le_of_ble_eq_true rfl, rfl, rfl⟩ rfl rfl (Nat.le_of_ble_eq_true rfl) hl.1 ⟨Nat.zero_le _, Nat.zero_le _⟩ dX7_commit_45 (fun r_45 G_45 H locs hR hP hS => ?_)
          obtain ⟨rfl, hG_45⟩ := hR
          rw [hG_45] at hP
          clear hG_45
          refine lv_if_le (tgt := 54) hx hb dX7_commit_48 (by decide) (fun c_48 => ?_) (fun c_48 => ?_)
          · skip
            refine lv_aload_n hx hb dX7_commit_54 rfl (lv_at hl 0 rfl) ?_
            refine lv_iconst (v := nI 5) hx hb dX7_commit_55 (by decide) ?_
            refine kcVv X hP hS (c_X7_keeps l hI (by omega)) oJ v_X7_40 ⟨Nat.le_of_ble_eq_true rfl, Nat.le_of_ble_eq_true rfl, rfl, rfl⟩ rfl rfl (Nat.le_of_ble_eq_true rfl) hl.1 ⟨Nat.zero_le _, Nat.zero_le _⟩ dX7_commit_56 (fun G_56 H locs hR hP hS => ?_)
            subst hR
            refine lv_aload_n hx hb dX7_commit_59 rfl (lv_at hl 0 rfl) ?_
            refine lv_iload_n hx hb dX7_commit_60 rfl (lv_at hl 1 rfl) ?_
            refine lv_iconst (v := nI 2) hx hb dX7_commit_61 (by decide) ?_
            refine lv_iconst (v := nI 1) hx hb dX7_commit_62 (by decide) ?_
            refine kcVv X hP hS (c_X7_setsR l hI (by omega)) oJ v_X7_88 ⟨Nat.le_of_ble_eq_true rfl, Nat.le_of_ble_eq_true rfl, rfl, rfl⟩ rfl rfl (Nat.le_of_ble_eq_true rfl) hl.1 ⟨Nat.zero_le _, Nat.zero_le _⟩ dX7_commit_63 (fun G_63 H locs hR hP hS => ?_)
            subst hR
            rw [gs1_rw1, (show kpF G 5 1201 1 = G 1 from by funext f; unfold kpF; rw [if_neg (by omega)])] at hP
            refine lv_aload_n hx hb dX7_commit_66 rfl (lv_at hl 0 rfl) ?_
            refine lv_iload_n hx hb dX7_commit_67 rfl (lv_at hl 1 rfl) ?_
            refine lv_iconst (v := nI 4) hx hb dX7_commit_68 (by decide) ?_
            refine kcV X hP hS (c_X7_ofR l hI (by first | assumption | omega)) oJ v_X7_32 ⟨Nat.le_of_ble_eq_true rfl, Nat.le_of_ble_eq_true rfl, rfl, rfl⟩ rfl rfl (Nat.le_of_ble_eq_true rfl) hl.1 ⟨Nat.zero_le _, Nat.zero_le _⟩ dX7_commit_69 (fun r_69 G_69 H locs hR hP hS => ?_)
            obtain ⟨rfl, hG_69⟩ := hR
            rw [hG_69] at hP
            clear hG_69
            have hr40 : r < 40 := by omega
            have hk4 := hkk r hr c_15
            rw [rw1_1, upd_ne (by omega)]
            have hcd := cdN_k (r := r) (k := k) (mm := mm) (V := Wn) (n := n) (N := G 1) hW hn
            first
              | refine kif_eq (tgt := 80) hx hb dX7_commit_72 (by decide) (fun c_72 => ?_) (fun c_72 => ?_)
              | refine lv_if_eq (tgt := 80) hx hb dX7_commit_72 (by decide) (fun c_72 => ?_) (fun c_72 => ?_)
            · skip
              rw [show (upd (G 1) (9 + 20 * r + 2) (nI 1)) = (cdN (G 1) r k mm Wn).1 from by rw [cdN, if_pos c_72]] at hP
              refine lv_aload_n hx hb dX7_commit_80 rfl (lv_at hl 0 rfl) ?_
              refine kcV X hP hS (c_X7_removes l hI (Wn := (cdN (G 1) r k mm Wn).2) (n := n) (by rw [rw1_1]; exact hcd.1) (by omega) (by omega) (by rw [rw1_1]; exact hcd.2.1) hn4) oJ v_X7_98 ⟨Nat.le_of_ble_eq_true rfl, Nat.le_of_ble_eq_true rfl, rfl, rfl⟩ rfl rfl (Nat.le_of_ble_eq_true rfl) hl.1 ⟨Nat.zero_le _, Nat.zero_le _⟩ dX7_commit_81 (fun r_81 G_81 H locs hR hP hS => ?_)
              obtain ⟨rfl, hG_81⟩ := hR
              rw [rw1_rw1, rw1_1, show rmN (cdN (G 1) r k mm Wn).1 n (cdN (G 1) r k mm Wn).2 = cmN (G 1) r k mm n Wn from rfl] at hG_81
              subst hG_81
              have hck := cmN_k (r := r) (k := k) (mm := mm) hW hn hW1
              refine lv_pop hx hb dX7_commit_84 rfl ?_
              refine lv_aload_n hx hb dX7_commit_85 rfl (lv_at hl 0 rfl) ?_
              refine kcV X hP hS (c_X7_oldMany l hI (Wn := cmV (G 1) r k mm n Wn) (by rw [rw1_1]; exact hck.1)) oJ v_X7_139 ⟨Nat.le_of_ble_eq_true rfl, Nat.le_of_ble_eq_true rfl, rfl, rfl⟩ rfl rfl (Nat.le_of_ble_eq_true rfl) hl.1 ⟨Nat.zero_le _, Nat.zero_le _⟩ dX7_commit_86 (fun r_86 G_86 H locs hR hP hS => ?_)
              obtain ⟨rfl, hG_86⟩ := hR
              rw [hG_86] at hP
              clear hG_86
              have hag := agR_b G (cmN (G 1) r k mm n Wn)
              refine lv_bipush (v := nI 40) hx hb dX7_commit_89 (by decide) ?_
              first
                | refine kic_le (tgt := 102) hx hb dX7_commit_91 (by decide) (by with_reducible rfl) (by with_reducible rfl) (by omega) (by omega) (fun c_91 => ?_) (fun c_91 => ?_)
                | refine lv_icmp_le (tgt := 102) hx hb dX7_commit_91 (by decide) (fun c_91 => ?_) (fun c_91 => ?_)
              · skip
                refine lv_aload_n hx hb dX7_commit_102 rfl (lv_at hl 0 rfl) ?_
                refine lv_iload_n hx hb dX7_commit_103 rfl (lv_at hl 1 rfl) ?_
                refine kcV X hP hS (c_X7_commitsFor l hI (Wn := Wn) (n := n) (k := k) (mm := mm) (L := L) (r := r) (by rw [hag.2.1 _ (by omega)]; exact hW) hW1 hW5 (by rw [hag.2.1 _ (by omega)]; exact hn) hn4 (by rw [hag.2.1 _ (by omega)]; exact hk) hk4 (by rw [hag.2.1 _ (by omega)]; exact hm) (by omega) (by rw [rw1_o (by omega)]; unfold kpF; rw [if_neg (by omega)]; exact hL) hL4) oJ v_X7_142 ⟨Nat.le_of_ble_eq_true rfl, Nat.le_of_ble_eq_true rfl, rfl, rfl⟩ rfl rfl (Nat.le_of_ble_eq_true rfl) hl.1 ⟨Nat.zero_le _, Nat.zero_le _⟩ dX7_commit_104 (fun r_104 G_104 H locs hR hP hS => ?_)
                have h_104 := hR
                exact hret _ _ _ _ _ _ (rdP_h hr (by omega) (by rw [if_pos c_15, if_neg c_26, if_neg (fun z => z.2 c_48), if_neg (Int32.not_lt.mpr c_91)]; exact ⟨_, hag, hR⟩)) hP hS dX7_commit_107
              · skip
                refine lv_aload_n hx hb dX7_commit_94 rfl (lv_at hl 0 rfl) ?_
                refine lv_iconst (v := nI 5) hx hb dX7_commit_95 (by decide) ?_
                refine kcVv X hP hS (c_X7_brings l hI (by omega)) oJ v_X7_44 ⟨Nat.le_of_ble_eq_true rfl, Nat.le_of_ble_eq_true rfl, rfl, rfl⟩ rfl rfl (Nat.le_of_ble_eq_true rfl) hl.1 ⟨Nat.zero_le _, Nat.zero_le _⟩ dX7_commit_96 (fun G_96 H locs hR hP hS => ?_)
                subst hR
                refine lv_bipush (v := (-3)) hx hb dX7_commit_99 (by decide) ?_
                exact hret _ _ _ _ _ _ (rdP_h hr (by omega) (by rw [if_pos c_15, if_neg c_26, if_neg (fun z => z.2 c_48), if_pos (Int32.not_le.mp c_91)]; exact ⟨rfl, hag⟩)) hP hS dX7_commit_101
            · skip
              refine lv_aload_n hx hb dX7_commit_75 rfl (lv_at hl 0 rfl) ?_
              refine lv_iload_n hx hb dX7_commit_76 rfl (lv_at hl 1 rfl) ?_
              refine kcVv X hP hS (c_X7_commits l hI (Wn := Wn) (k := k) (mm := mm) (r := r) (by rw [rw1_1, upd_ne (by omega)]; exact hW) hW5 (by rw [rw1_1, upd_ne (by omega)]; exact hk) hk4 (by rw [rw1_1, upd_ne (by omega)]; exact hm) hr40) oJ v_X7_136 ⟨Nat.le_of_ble_eq_true rfl, Nat.le_of_ble_eq_true rfl, rfl, rfl⟩ rfl rfl (Nat.le_of_ble_eq_true rfl) hl.1 ⟨Nat.zero_le _, Nat.zero_le _⟩ dX7_commit_77 (fun G_77 H locs hR hP hS => ?_)
              subst hR
              rw [rw1_rw1, rw1_1, show coN (upd (G 1) (9 + 20 * r + 2) (nI 1)) r k mm Wn = (cdN (G 1) r k mm Wn).1 from by rw [cdN, if_neg c_72, coN]] at hP
              refine lv_aload_n hx hb dX7_commit_80 rfl (lv_at hl 0 rfl) ?_
              refine kcV X hP hS (c_X7_removes l hI (Wn := (cdN (G 1) r k mm Wn).2) (n := n) (by rw [rw1_1]; exact hcd.1) (by omega) (by omega) (by rw [rw1_1]; exact hcd.2.1) hn4) oJ v_X7_98 ⟨Nat.le_of_ble_eq_true rfl, Nat.le_of_ble_eq_true rfl, rfl, rfl⟩ rfl rfl (Nat.le_of_ble_eq_true rfl) hl.1 ⟨Nat.zero_le _, Nat.zero_le _⟩ dX7_commit_81 (fun r_81 G_81 H locs hR hP hS => ?_)
              obtain ⟨rfl, hG_81⟩ := hR
              rw [rw1_rw1, rw1_1, show rmN (cdN (G 1) r k mm Wn).1 n (cdN (G 1) r k mm Wn).2 = cmN (G 1) r k mm n Wn from rfl] at hG_81
              subst hG_81
              have hck := cmN_k (r := r) (k := k) (mm := mm) hW hn hW1
              refine lv_pop hx hb dX7_commit_84 rfl ?_
              refine lv_aload_n hx hb dX7_commit_85 rfl (lv_at hl 0 rfl) ?_
              refine kcV X hP hS (c_X7_oldMany l hI (Wn := cmV (G 1) r k mm n Wn) (by rw [rw1_1]; exact hck.1)) oJ v_X7_139 ⟨Nat.le_of_ble_eq_true rfl, Nat.le_of_ble_eq_true rfl, rfl, rfl⟩ rfl rfl (Nat.le_of_ble_eq_true rfl) hl.1 ⟨Nat.zero_le _, Nat.zero_le _⟩ dX7_commit_86 (fun r_86 G_86 H locs hR hP hS => ?_)
              obtain ⟨rfl, hG_86⟩ := hR
              rw [hG_86] at hP
              clear hG_86
              have hag := agR_b G (cmN (G 1) r k mm n Wn)
              refine lv_bipush (v := nI 40) hx hb dX7_commit_89 (by decide) ?_
              first
                | refine kic_le (tgt := 102) hx hb dX7_commit_91 (by decide) (by with_reducible rfl) (by with_reducible rfl) (by omega) (by omega) (fun c_91 => ?_) (fun c_91 => ?_)
                | refine lv_icmp_le (tgt := 102) hx hb dX7_commit_91 (by decide) (fun c_91 => ?_) (fun c_91 => ?_)
              · skip
                refine lv_aload_n hx hb dX7_commit_102 rfl (lv_at hl 0 rfl) ?_
                refine lv_iload_n hx hb dX7_commit_103 rfl (lv_at hl 1 rfl) ?_
                refine kcV X hP hS (c_X7_commitsFor l hI (Wn := Wn) (n := n) (k := k) (mm := mm) (L := L) (r := r) (by rw [hag.2.1 _ (by omega)]; exact hW) hW1 hW5 (by rw [hag.2.1 _ (by omega)]; exact hn) hn4 (by rw [hag.2.1 _ (by omega)]; exact hk) hk4 (by rw [hag.2.1 _ (by omega)]; exact hm) (by omega) (by rw [rw1_o (by omega)]; unfold kpF; rw [if_neg (by omega)]; exact hL) hL4) oJ v_X7_142 ⟨Nat.le_of_ble_eq_true rfl, Nat.le_of_ble_eq_true rfl, rfl, rfl⟩ rfl rfl (Nat.le_of_ble_eq_true rfl) hl.1 ⟨Nat.zero_le _, Nat.zero_le _⟩ dX7_commit_104 (fun r_104 G_104 H locs hR hP hS => ?_)
                have h_104 := hR
                exact hret _ _ _ _ _ _ (rdP_h hr (by omega) (by rw [if_pos c_15, if_neg c_26, if_neg (fun z => z.2 c_48), if_neg (Int32.not_lt.mpr c_91)]; exact ⟨_, hag, hR⟩)) hP hS dX7_commit_107
              · skip
                refine lv_aload_n hx hb dX7_commit_94 rfl (lv_at hl 0 rfl) ?_
                refine lv_iconst (v := nI 5) hx hb dX7_commit_95 (by decide) ?_
                refine kcVv X hP hS (c_X7_brings l hI (by omega)) oJ v_X7_44 ⟨Nat.le_of_ble_eq_true rfl, Nat.le_of_ble_eq_true rfl, rfl, rfl⟩ rfl rfl (Nat.le_of_ble_eq_true rfl) hl.1 ⟨Nat.zero_le _, Nat.zero_le _⟩ dX7_commit_96 (fun G_96 H locs hR hP hS => ?_)
                subst hR
                refine lv_bipush (v := (-3)) hx hb dX7_commit_99 (by decide) ?_
                exact hret _ _ _ _ _ _ (rdP_h hr (by omega) (by rw [if_pos c_15, if_neg c_26, if_neg (fun z => z.2 c_48), if_pos (Int32.not_le.mp c_91)]; exact ⟨rfl, hag⟩)) hP hS dX7_commit_101
          · skip
            refine lv_bipush (v := (-4)) hx hb dX7_commit_51 (by decide) ?_
            exact hret _ _ _ _ _ _ (rdP_h hr hn4 (by rw [if_pos c_15, if_neg c_26, if_pos ⟨c_40, c_48⟩]; exact ⟨rfl, rfl⟩)) hP hS dX7_commit_53
      · skip
        refine lv_bipush (v := (-6)) hx hb dX7_commit_29 (by decide) ?_
        exact hret _ _ _ _ _ _ (rdP_h hr hn4 (by rw [if_pos c_15, if_pos c_26]; exact ⟨rfl, rfl⟩)) hP hS dX7_commit_31
    · skip
      refine lv_bipush (v := (-4)) hx hb dX7_commit_18 (by decide) ?_
      exact hret _ _ _ _ _ _ (rdP_h hr hn4 (by rw [if_neg c_15]; exact ⟨rfl, rfl⟩)) hP hS dX7_commit_20
  · skip
    have hms := isR_no hn4 (by rw [hn] at c_5; exact c_5)
    refine lv_iconst (v := (-1)) hx hb dX7_commit_8 (by decide) ?_
    exact hret _ _ _ _ _ _ (rdP_m hms ⟨rfl, rfl⟩) hP hS dX7_commit_9
