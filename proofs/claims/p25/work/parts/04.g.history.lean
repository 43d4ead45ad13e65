
def CB (G G' : Nat → Nat → Int32) (j j2 n k : Nat) : Prop := (∀ c, c < 12 → CE G G' j j2 c) ∧ (∀ r, r < n → RE G G' j j2 r) ∧ (∀ q, q < k → ME G G' j j2 q) ∧ ∀ f, 3 ≤ f → f ≤ 9 → G' (sB j) f = G (sB j2) f
def rotP (pi : Nat → Nat) (L t : Nat) : Nat := if L = 4 then (if t < 3 then pi (t + 1) else pi 0) else pi t
def rotL (L : Nat) : Nat := if L = 4 then 3 else L
theorem rotL_lt {L : Nat} (h : L ≤ 4) : rotL L < 4 := by unfold rotL; split <;> omega
theorem rotP_all {pi : Nat → Nat} {L t : Nat} {Z : Nat → Prop} (h : ∀ t, t < 4 → Z (pi t)) (ht : t < 4) : Z (rotP pi L t) := by
  unfold rotP
  split
  · split
    · exact h _ (by omega)
    · exact h _ (by omega)
  · exact h _ ht
theorem CB_of {G G1 G2 : Nat → Nat → Int32} {j j2 n k : Nat} (h : CB G1 G2 j j2 n k) (e : ∀ o, o < 161 → G1 (sB j2 + o) = G (sB j2 + o)) (hn : n ≤ 40) (hk : k ≤ 40) : CB G G2 j j2 n k := by
  obtain ⟨h1, h2, h3, h4⟩ := h
  have eo : ∀ (q o : Nat), o < 161 → q = sB j2 + o → G1 q = G q := fun q o ho hq => by rw [hq]; exact e o ho
  refine ⟨fun c hc => ?_, fun r hr => ?_, fun q hq => ?_, fun f f1 f2 => ?_⟩
  · have := h1 c hc
    unfold CE at this ⊢
    rw [eo (cV j2 c) (6 + 3 * c) (by omega) (by unfold cV sB; omega), eo (cM j2 c) (7 + 3 * c) (by omega) (by unfold cM sB; omega), eo (cB j2 c) (5 + 3 * c) (by omega) (by unfold cB sB; omega)] at this
    exact this
  · have := h2 r hr
    unfold RE at this ⊢
    rw [eo (rW j2 r) (42 + 2 * r) (by omega) (by unfold rW sB; omega), eo (rN j2 r) (41 + 2 * r) (by omega) (by unfold rN sB; omega)] at this
    exact this
  · have := h3 q hq
    unfold ME at this ⊢
    rw [eo (mC j2 q) (121 + q) (by omega) (by unfold mC sB; omega)] at this
    exact this
  · have := h4 f f1 f2
    rw [eo (sB j2) 0 (by omega) (by omega)] at this
    exact this
theorem CB_to {G G1 G2 : Nat → Nat → Int32} {j j2 n k : Nat} (h : CB G G1 j j2 n k) (e : ∀ o, o < 161 → G2 (sB j + o) = G1 (sB j + o)) (hn : n ≤ 40) (hk : k ≤ 40) : CB G G2 j j2 n k := by
  obtain ⟨h1, h2, h3, h4⟩ := h
  have eo : ∀ (q o : Nat), o < 161 → q = sB j + o → G2 q = G1 q := fun q o ho hq => by rw [hq]; exact e o ho
  refine ⟨fun c hc => ?_, fun r hr => ?_, fun q hq => ?_, fun f f1 f2 => ?_⟩
  · exact CE_k (h1 c hc) ⟨eo (cB j c) (5 + 3 * c) (by omega) (by unfold cB sB; omega), eo (cV j c) (6 + 3 * c) (by omega) (by unfold cV sB; omega), eo (cM j c) (7 + 3 * c) (by omega) (by unfold cM sB; omega)⟩
  · exact RE_k (h2 r hr) (eo (rN j r) (41 + 2 * r) (by omega) (by unfold rN sB; omega)) (eo (rW j r) (42 + 2 * r) (by omega) (by unfold rW sB; omega))
  · exact ME_k (h3 q hq) (eo (mC j q) (121 + q) (by omega) (by unfold mC sB; omega))
  · rw [eo (sB j) 0 (by omega) (by omega)]
    exact h4 f f1 f2
theorem CPY_cb {G G' : Nat → Nat → Int32} {j j2 n k : Nat} (h : CPY G G' j j2 n k) : CB G G' j j2 n k := h.2
set_option maxHeartbeats 4000000 in
set_option maxRecDepth 100000 in
theorem c_X2_dropOldest (l : Launch) {D : va_G} {τ : Nat → ClassId} {ad : Nat → Nat} (hI : kInj ad) {G : Nat → Nat → Int32} {pi : Nat → Nat} (hpi : ∀ t, t < 4 → G 9 t = nI (pi t) ∧ pi t < 7) : kMv l yX2_dropOldest cX2_dropOldest 3 { frames := 0, cells := 0, slots := 0, locals := 0 } D τ ad [.ref (ad 8)] G (fun G' => (∀ k, k ≠ 8 → k ≠ 9 → G' k = G k) ∧ (∀ t, t < 4 → G' 9 t = nI (rotP pi 4 t)) ∧ G' 8 1 = nI 3) := by
  refine kMetV (own := RX2) (by decide) rfl (Nat.le_of_ble_eq_true rfl) ?_
  intro p9 e9 s9 m9 args9 below9 meth9 c9 Q9 X hx hb hP hS hret ls hl
  have hPs := hP
  have hl : lv_has ls 3 [(0, .ref (ad 8))] := hl
  refine lv_aload_n hx hb dX2_dropOldest_0 rfl (lv_at hl 0 rfl) ?_
  refine kget X hP oH g_X2_11 rfl dX2_dropOldest_1 ?_
  refine lv_iconst (v := nI 0) hx hb dX2_dropOldest_4 (by decide) ?_
  refine kaald X hP qH (by omega) (show _ = sB (pi 0) from congrArg sB (by rw [(hpi 0 (by omega)).1, nI_clamp (by have := (hpi 0 (by omega)).2; omega)])) dX2_dropOldest_5 ?_
  refine kast hx hb dX2_dropOldest_6 rfl hl (by decide) (kp_1_1 rfl) (fun ls hl => ?_)
  refine lv_iconst (v := nI 1) hx hb dX2_dropOldest_7 (by decide) ?_
  refine kist hx hb dX2_dropOldest_8 rfl hl (by decide) (kp_2_2 rfl) (fun ls hl => ?_)
  have lp_9 : ∀ (d : Nat) (i : Nat) (G1 : Nat → Nat → Int32) (H : Heap) (locs : List Loc) (ls : Array Slot), (4 - i) < d → (1 ≤ i ∧ i ≤ 4) → (∀ k, k ≠ 9 → G1 k = G k) → (∀ t, t < 4 → G1 9 t = nI (if t + 1 < i then pi (t + 1) else pi t)) → va_P D vwCl (kW τ ad G1) H → va_S (kAd ad) s9.heap H locs → lv_has ls 3 [(0, .ref (ad 8)), (1, .ref (ad (sB (pi 0)))), (2, .int (nI i))] → W p9 l e9 { frames := 0, cells := 0, slots := 0, locals := 0 } s9 m9 args9 below9 meth9 c9 H locs 0 0 Q9 (F0 m9 9 ls []) := by
    intro d
    induction d with
    | zero => exact fun _ _ _ _ _ hd => absurd hd (Nat.not_lt_zero _)
    | succ d ih_9 =>
      intro i G1 H locs ls hd iv_0 iv_1 iv_2 hP hS hl
      refine lv_iload_n hx hb dX2_dropOldest_9 rfl (lv_at hl 2 rfl) ?_
      refine lv_iconst (v := nI 4) hx hb dX2_dropOldest_10 (by decide) ?_
      first
        | refine kic_ge (tgt := 34) hx hb dX2_dropOldest_11 (by decide) (by with_reducible rfl) (by with_reducible rfl) (by omega) (by omega) (fun c_11 => ?_) (fun c_11 => ?_)
        | refine lv_icmp_ge (tgt := 34) hx hb dX2_dropOldest_11 (by decide) (fun c_11 => ?_) (fun c_11 => ?_)
      · skip
        refine lv_aload_n hx hb dX2_dropOldest_34 rfl (lv_at hl 0 rfl) ?_
        refine kget X hP oH g_X2_11 rfl dX2_dropOldest_35 ?_
        refine lv_iconst (v := nI 3) hx hb dX2_dropOldest_38 (by decide) ?_
        refine lv_aload_n hx hb dX2_dropOldest_39 rfl (lv_at hl 1 rfl) ?_
        refine kaast X hI hP hS (by omega) (hpi 0 (by omega)).2 dX2_dropOldest_40 (fun H locs hP hS => ?_)
        refine lv_aload_n hx hb dX2_dropOldest_41 rfl (lv_at hl 0 rfl) ?_
        refine lv_iconst (v := nI 3) hx hb dX2_dropOldest_42 (by decide) ?_
        refine kput X hI hP hS oH g_X2_18 (fun _ => rfl) rfl (fun _ => Nat.le_of_ble_eq_true rfl) rfl rfl dX2_dropOldest_43 (fun H locs hP hS => ?_)
        exact hret _ _ _ _ _ (by
            have ei : i = 4 := (by omega)
            rw [ei] at iv_2
            refine ⟨fun k h1 h2 => by rw [gs_other h1, gs_other h2]; exact iv_1 k h2, fun t ht => ?_, by simp [gs]⟩
            rw [gs_other (by omega), rotP, if_pos rfl]
            by_cases e : t = 3
            · subst e; simp [gs]
            · have q := iv_2 t ht
              rw [if_pos (by omega)] at q ⊢
              simp only [gs, e, and_false, if_false]; exact q) hP hS dX2_dropOldest_46
      · skip
        refine lv_aload_n hx hb dX2_dropOldest_14 rfl (lv_at hl 0 rfl) ?_
        refine kget X hP oH g_X2_11 rfl dX2_dropOldest_15 ?_
        refine lv_iload_n hx hb dX2_dropOldest_18 rfl (lv_at hl 2 rfl) ?_
        refine lv_iconst (v := nI 1) hx hb dX2_dropOldest_19 (by decide) ?_
        first
          | refine ksub hx hb dX2_dropOldest_20 (by with_reducible rfl) (by with_reducible rfl) (by omega) ?_
          | refine lv_isub hx hb dX2_dropOldest_20 ?_
        refine lv_aload_n hx hb dX2_dropOldest_21 rfl (lv_at hl 0 rfl) ?_
        refine kget X hP oH g_X2_11 rfl dX2_dropOldest_22 ?_
        refine lv_iload_n hx hb dX2_dropOldest_25 rfl (lv_at hl 2 rfl) ?_
        refine kaald X hP qH (by omega) (show _ = sB (pi i) from congrArg sB (by rw [iv_2 i (by omega), if_neg (by omega), nI_clamp (by have := (hpi i (by omega)).2; omega)])) dX2_dropOldest_26 ?_
        refine kaast X hI hP hS (by omega) (hpi i (by omega)).2 dX2_dropOldest_27 (fun H locs hP hS => ?_)
        first
          | refine kinc (q := 2) hx hb dX2_dropOldest_28 hl rfl (by decide) (kp_3_2 rfl) (fun ls hl => ?_)
          | refine kincG (q := 2) hx hb dX2_dropOldest_28 hl rfl (by decide) (kp_3_2 rfl) (fun ls hl => ?_)
        refine lv_goto (tgt := 9) hx hb dX2_dropOldest_31 (by decide) ?_
        exact ih_9 _ _ _ _ _ (by omega) (by omega) (fun k hk => by rw [gs_other hk]; exact iv_1 k hk) (fun t ht => by
                by_cases e : t = i - 1
                · rw [if_pos (by omega), e, show i - 1 + 1 = i by omega]; simp [gs]
                · have q := iv_2 t ht
                  simp only [gs, e, and_false, if_false]
                  rw [q]
                  by_cases z : t + 1 < i
                  · rw [if_pos z, if_pos (by omega)]
                  · rw [if_neg z, if_neg (by omega)]) hP hS (lv_sub hl [0,1,2] rfl)
  exact lp_9 _ 1 G _ _ _ (Nat.lt_succ_self _) (⟨Nat.le_refl _, by omega⟩) (fun _ _ => rfl) (fun t ht => by rw [if_neg (by omega)]; exact (hpi t ht).1) hP hS (lv_sub hl [0,1,2] rfl)

set_option maxHeartbeats 4000000 in
set_option maxRecDepth 100000 in
theorem c_X2_record (l : Launch) {D : va_G} {τ : Nat → ClassId} {ad : Nat → Nat} (hI : kInj ad) {G : Nat → Nat → Int32} {j n k L : Nat} {pi : Nat → Nat} (hj : j < 7) (hL : G 8 1 = nI L) (hL4 : L ≤ 4) (hpi : ∀ t, t < 4 → G 9 t = nI (pi t) ∧ pi t < 7) (hne : ∀ t, t < 4 → pi t ≠ j) (hn : G (sB j) 6 = nI n) (hn4 : n ≤ 40) (hk : G (sB j) 7 = nI k) (hk4 : k ≤ 40) (hz : ∀ r, r < n → G (rN j r) 8 = 0 ∨ G (rN j r) 8 = 1) (hy : G (sB j) 9 = 0 ∨ G (sB j) 9 = 1) : kMv l yX2_record cX2_record 2 { frames := 3, cells := 0, slots := 0, locals := 83 } D τ ad [.ref (ad 8), .ref (ad (sB j))] G (fun G' => G' 8 1 = nI (rotL L + 1) ∧ (∀ t, t < 4 → G' 9 t = nI (rotP pi L t)) ∧ (∀ q, q ≠ 8 → q ≠ 9 → (q < sB (rotP pi L (rotL L)) ∨ sB (rotP pi L (rotL L)) + 161 ≤ q) → G' q = G q) ∧ CB G G' (rotP pi L (rotL L)) j n k) := by
  refine kMetV (own := RX2) (by decide) rfl (Nat.le_of_ble_eq_true rfl) ?_
  intro p9 e9 s9 m9 args9 below9 meth9 c9 Q9 X hx hb hP hS hret ls hl
  have hPs := hP
  have hl : lv_has ls 2 [(0, .ref (ad 8)), (1, .ref (ad (sB j)))] := hl
  refine lv_aload_n hx hb dX2_record_0 rfl (lv_at hl 0 rfl) ?_
  refine kget X hP oH g_X2_18 (congrArg (fun z => some (Value.int z)) hL) dX2_record_1 ?_
  refine lv_iconst (v := nI 4) hx hb dX2_record_4 (by decide) ?_
  first
    | refine kic_lt (tgt := 12) hx hb dX2_record_5 (by decide) (by with_reducible rfl) (by with_reducible rfl) (by omega) (by omega) (fun c_5 => ?_) (fun c_5 => ?_)
    | refine lv_icmp_lt (tgt := 12) hx hb dX2_record_5 (by decide) (fun c_5 => ?_) (fun c_5 => ?_)
  · skip
    have hx1 : G 8 1 = nI (rotL L) := by rw [rotL, if_neg (by omega)]; exact hL
    have hx2 : ∀ t, t < 4 → G 9 t = nI (rotP pi L t) := fun t ht => by rw [rotP, if_neg (by omega)]; exact (hpi t ht).1
    have hx3 : ∀ q, 14 ≤ q → G q = G q := fun _ _ => rfl
    refine lv_aload_n hx hb dX2_record_12 rfl (lv_at hl 0 rfl) ?_
    refine kget X hP oH g_X2_11 rfl dX2_record_13 ?_
    refine lv_aload_n hx hb dX2_record_16 rfl (lv_at hl 0 rfl) ?_
    refine kget X hP oH g_X2_18 (congrArg (fun z => some (Value.int z)) hx1) dX2_record_17 ?_
    refine kaald X hP qH (rotL_lt hL4) (show _ = sB (rotP pi L (rotL L)) from congrArg sB (by rw [hx2 _ (rotL_lt hL4), nI_clamp (by have := rotP_all (L := L) (Z := fun q => q < 7) (fun t ht => (hpi t ht).2) (rotL_lt hL4); omega)])) dX2_record_20 ?_
    refine lv_aload_n hx hb dX2_record_21 rfl (lv_at hl 1 rfl) ?_
    refine kcVv X hP hS (c_X4_copyFrom l hI (n := n) (k := k) (rotP_all (Z := fun q => q < 7) (fun t ht => (hpi t ht).2) (rotL_lt hL4)) hj (rotP_all (Z := fun q => q ≠ j) hne (rotL_lt hL4)) (by rw [hx3 _ (by unfold sB; omega)]; exact hn) hn4 (by rw [hx3 _ (by unfold sB; omega)]; exact hk) hk4 (fun r hr => by rw [hx3 _ (by unfold rN; omega)]; exact hz r hr) (by rw [hx3 _ (by unfold sB; omega)]; exact hy)) (oS (rotP_all (Z := fun q => q < 7) (fun t ht => (hpi t ht).2) (rotL_lt hL4))) v_X2_25 ⟨Nat.le_of_ble_eq_true rfl, Nat.le_of_ble_eq_true rfl, rfl, rfl⟩ rfl rfl (Nat.le_of_ble_eq_true rfl) hl.1 ⟨Nat.zero_le _, Nat.zero_le _⟩ dX2_record_22 (fun G_22 H locs hR hP hS => ?_)
    have h_22 := hR
    refine lv_aload_n hx hb dX2_record_25 rfl (lv_at hl 0 rfl) ?_
    refine lv_dup hx hb dX2_record_26 rfl ?_
    refine kget X hP oH g_X2_18 (congrArg (fun z => some (Value.int z)) (show _ = nI (rotL L) from (h_22.1 8 (by unfold sB; omega) ▸ hx1 : _ = nI (rotL L)))) dX2_record_27 ?_
    refine lv_iconst (v := nI 1) hx hb dX2_record_30 (by decide) ?_
    first
      | refine kadd hx hb dX2_record_31 (by with_reducible rfl) (by with_reducible rfl) ?_
      | refine lv_iadd hx hb dX2_record_31 ?_
    refine kput X hI hP hS oH g_X2_18 (fun _ => rfl) rfl (fun _ => Nat.le_of_ble_eq_true rfl) rfl rfl dX2_record_32 (fun H locs hP hS => ?_)
    exact hret _ _ _ _ _ (by
        refine ⟨by simp [gs], fun t ht => ?_, fun q h1 h2 h3 => ?_, ?_⟩
        · rw [gs_other (by omega), h_22.1 9 (by unfold sB; omega)]; exact hx2 t ht
        · exact (gs_other h1).trans ((h_22.1 q h3).trans (by first | rfl | exact h_9.1 q h1 h2))
        · exact CB_to (CB_of (CPY_cb h_22) (fun o ho => hx3 _ (by unfold sB; omega)) hn4 hk4) (fun o ho => gs_other (by unfold sB; omega)) hn4 hk4) hP hS dX2_record_35
  · skip
    skip
    refine lv_aload_n hx hb dX2_record_8 rfl (lv_at hl 0 rfl) ?_
    refine kcVv X hP hS (c_X2_dropOldest l hI hpi) oH v_X2_22 ⟨Nat.le_of_ble_eq_true rfl, Nat.le_of_ble_eq_true rfl, rfl, rfl⟩ rfl rfl (Nat.le_of_ble_eq_true rfl) hl.1 ⟨Nat.zero_le _, Nat.zero_le _⟩ dX2_record_9 (fun G_9 H locs hR hP hS => ?_)
    have h_9 := hR
    have hx1 : G_9 8 1 = nI (rotL L) := by rw [rotL, if_pos (by omega)]; exact h_9.2.2
    have hx2 : ∀ t, t < 4 → G_9 9 t = nI (rotP pi L t) := fun t ht => by rw [show L = 4 by omega]; exact h_9.2.1 t ht
    have hx3 : ∀ q, 14 ≤ q → G_9 q = G q := fun q hq => h_9.1 q (by omega) (by omega)
    refine lv_aload_n hx hb dX2_record_12 rfl (lv_at hl 0 rfl) ?_
    refine kget X hP oH g_X2_11 rfl dX2_record_13 ?_
    refine lv_aload_n hx hb dX2_record_16 rfl (lv_at hl 0 rfl) ?_
    refine kget X hP oH g_X2_18 (congrArg (fun z => some (Value.int z)) hx1) dX2_record_17 ?_
    refine kaald X hP qH (rotL_lt hL4) (show _ = sB (rotP pi L (rotL L)) from congrArg sB (by rw [hx2 _ (rotL_lt hL4), nI_clamp (by have := rotP_all (L := L) (Z := fun q => q < 7) (fun t ht => (hpi t ht).2) (rotL_lt hL4); omega)])) dX2_record_20 ?_
    refine lv_aload_n hx hb dX2_record_21 rfl (lv_at hl 1 rfl) ?_
    refine kcVv X hP hS (c_X4_copyFrom l hI (n := n) (k := k) (rotP_all (Z := fun q => q < 7) (fun t ht => (hpi t ht).2) (rotL_lt hL4)) hj (rotP_all (Z := fun q => q ≠ j) hne (rotL_lt hL4)) (by rw [hx3 _ (by unfold sB; omega)]; exact hn) hn4 (by rw [hx3 _ (by unfold sB; omega)]; exact hk) hk4 (fun r hr => by rw [hx3 _ (by unfold rN; omega)]; exact hz r hr) (by rw [hx3 _ (by unfold sB; omega)]; exact hy)) (oS (rotP_all (Z := fun q => q < 7) (fun t ht => (hpi t ht).2) (rotL_lt hL4))) v_X2_25 ⟨Nat.le_of_ble_eq_true rfl, Nat.le_of_ble_eq_true rfl, rfl, rfl⟩ rfl rfl (Nat.le_of_ble_eq_true rfl) hl.1 ⟨Nat.zero_le _, Nat.zero_le _⟩ dX2_record_22 (fun G_22 H locs hR hP hS => ?_)
    have h_22 := hR
    refine lv_aload_n hx hb dX2_record_25 rfl (lv_at hl 0 rfl) ?_
    refine lv_dup hx hb dX2_record_26 rfl ?_
    refine kget X hP oH g_X2_18 (congrArg (fun z => some (Value.int z)) (show _ = nI (rotL L) from (h_22.1 8 (by unfold sB; omega) ▸ hx1 : _ = nI (rotL L)))) dX2_record_27 ?_
    refine lv_iconst (v := nI 1) hx hb dX2_record_30 (by decide) ?_
    first
      | refine kadd hx hb dX2_record_31 (by with_reducible rfl) (by with_reducible rfl) ?_
      | refine lv_iadd hx hb dX2_record_31 ?_
    refine kput X hI hP hS oH g_X2_18 (fun _ => rfl) rfl (fun _ => Nat.le_of_ble_eq_true rfl) rfl rfl dX2_record_32 (fun H locs hP hS => ?_)
    exact hret _ _ _ _ _ (by
        refine ⟨by simp [gs], fun t ht => ?_, fun q h1 h2 h3 => ?_, ?_⟩
        · rw [gs_other (by omega), h_22.1 9 (by unfold sB; omega)]; exact hx2 t ht
        · exact (gs_other h1).trans ((h_22.1 q h3).trans (by first | rfl | exact h_9.1 q h1 h2))
        · exact CB_to (CB_of (CPY_cb h_22) (fun o ho => hx3 _ (by unfold sB; omega)) hn4 hk4) (fun o ho => gs_other (by unfold sB; omega)) hn4 hk4) hP hS dX2_record_35

set_option maxHeartbeats 4000000 in
set_option maxRecDepth 100000 in
theorem c_X2_bringBack (l : Launch) {D : va_G} {τ : Nat → ClassId} {ad : Nat → Nat} (hI : kInj ad) {G : Nat → Nat → Int32} {j n k L : Nat} {pi : Nat → Nat} (hj : j < 7) (hL : G 8 1 = nI L) (hL1 : 1 ≤ L) (hL4 : L ≤ 4) (hpi : ∀ t, t < 4 → G 9 t = nI (pi t) ∧ pi t < 7) (hne : j ≠ pi (L - 1)) (hn : G (sB (pi (L - 1))) 6 = nI n) (hn4 : n ≤ 40) (hk : G (sB (pi (L - 1))) 7 = nI k) (hk4 : k ≤ 40) (hz : ∀ r, r < n → G (rN (pi (L - 1)) r) 8 = 0 ∨ G (rN (pi (L - 1)) r) 8 = 1) (hy : G (sB (pi (L - 1))) 9 = 0 ∨ G (sB (pi (L - 1))) 9 = 1) : kMv l yX2_bringBack cX2_bringBack 2 { frames := 3, cells := 0, slots := 0, locals := 83 } D τ ad [.ref (ad 8), .ref (ad (sB j))] G (fun G' => G' 8 1 = nI (L - 1) ∧ (∀ q, q ≠ 8 → (q < sB j ∨ sB j + 161 ≤ q) → G' q = G q) ∧ CB G G' j (pi (L - 1)) n k) := by
  refine kMetV (own := RX2) (by decide) rfl (Nat.le_of_ble_eq_true rfl) ?_
  intro p9 e9 s9 m9 args9 below9 meth9 c9 Q9 X hx hb hP hS hret ls hl
  have hPs := hP
  have hl : lv_has ls 2 [(0, .ref (ad 8)), (1, .ref (ad (sB j)))] := hl
  refine lv_aload_n hx hb dX2_bringBack_0 rfl (lv_at hl 0 rfl) ?_
  refine kget X hP oH g_X2_18 (congrArg (fun z => some (Value.int z)) hL) dX2_bringBack_1 ?_
  refine lv_if_le (tgt := 30) hx hb dX2_bringBack_4 (by decide) (fun c_4 => ?_) (fun c_4 => ?_)
  · skip
    exact absurd c_4 (nI_nle (by omega) (by omega))
  · skip
    refine lv_aload_n hx hb dX2_bringBack_7 rfl (lv_at hl 0 rfl) ?_
    refine lv_dup hx hb dX2_bringBack_8 rfl ?_
    refine kget X hP oH g_X2_18 (congrArg (fun z => some (Value.int z)) hL) dX2_bringBack_9 ?_
    refine lv_iconst (v := nI 1) hx hb dX2_bringBack_12 (by decide) ?_
    first
      | refine ksub hx hb dX2_bringBack_13 (by with_reducible rfl) (by with_reducible rfl) (by omega) ?_
      | refine lv_isub hx hb dX2_bringBack_13 ?_
    refine kput X hI hP hS oH g_X2_18 (fun _ => rfl) rfl (fun _ => Nat.le_of_ble_eq_true rfl) rfl rfl dX2_bringBack_14 (fun H locs hP hS => ?_)
    refine lv_aload_n hx hb dX2_bringBack_17 rfl (lv_at hl 1 rfl) ?_
    refine lv_aload_n hx hb dX2_bringBack_18 rfl (lv_at hl 0 rfl) ?_
    refine kget X hP oH g_X2_11 rfl dX2_bringBack_19 ?_
    refine lv_aload_n hx hb dX2_bringBack_22 rfl (lv_at hl 0 rfl) ?_
    refine kget X hP oH g_X2_18 (congrArg (fun z => some (Value.int z)) (by simp [gs] : _ = nI (L - 1))) dX2_bringBack_23 ?_
    refine kaald X hP qH (by omega) (show _ = sB (pi (L - 1)) from congrArg sB (by rw [gs_other (by omega), (hpi (L - 1) (by omega)).1, nI_clamp (by have := (hpi (L - 1) (by omega)).2; omega)])) dX2_bringBack_26 ?_
    refine kcVv X hP hS (c_X4_copyFrom l hI (n := n) (k := k) hj (hpi (L - 1) (by omega)).2 hne (by rw [gs_other (by unfold sB; omega)]; exact hn) hn4 (by rw [gs_other (by unfold sB; omega)]; exact hk) hk4 (fun r hr => by rw [gs_other (by unfold rN; omega)]; exact hz r hr) (by rw [gs_other (by unfold sB; omega)]; exact hy)) (oS hj) v_X2_25 ⟨Nat.le_of_ble_eq_true rfl, Nat.le_of_ble_eq_true rfl, rfl, rfl⟩ rfl rfl (Nat.le_of_ble_eq_true rfl) hl.1 ⟨Nat.zero_le _, Nat.zero_le _⟩ dX2_bringBack_27 (fun G_27 H locs hR hP hS => ?_)
    have h_27 := hR
    exact hret _ _ _ _ _ (by
        refine ⟨by rw [h_27.1 8 (by unfold sB; omega)]; simp [gs], fun q h1 h2 => by rw [h_27.1 q h2]; exact gs_other h1, CB_of (CPY_cb h_27) (fun o ho => gs_other (by unfold sB; omega)) hn4 hk4⟩) hP hS dX2_bringBack_30
