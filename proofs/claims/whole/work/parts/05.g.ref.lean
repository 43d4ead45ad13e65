
def good (S : Nat → Int32) (T a : Nat) : Prop := ¬ (cE S T a = a ∨ ¬ sgn S T (cE S T a) 61) ∧ ¬ vE S T a = cE S T a + 1
theorem good_b {S : Nat → Int32} {T a : Nat} (h : ¬ (cE S T a = a ∨ ¬ sgn S T (cE S T a) 61) ∧ ¬ vE S T a = cE S T a + 1) : a + 3 ≤ vE S T a ∧ vE S T a ≤ T := by
  have h1 := eon_b S T a 2
  have h2 := eon_b S T (cE S T a + 1) 4
  have e1 : cE S T a = eon S T a 2 := rfl
  have e2 : vE S T a = eon S T (cE S T a + 1) 4 := rfl
  have h3 : cE S T a ≠ a := fun z => h.1 (Or.inl z)
  have h4 := h.2
  omega
theorem pR_n {S : Nat → Int32} {T k a : Nat} (h : ¬ (cE S T a = a ∨ ¬ sgn S T (cE S T a) 61) ∧ ¬ vE S T a = cE S T a + 1) : pR S T (k + 1) a = (if T ≤ vE S T a then -1 else if ¬ sgn S T (vE S T a) 59 then nI (vE S T a) else pR S T k (vE S T a + 1)) := by rw [pR, if_neg h.1, if_neg h.2]
theorem pW_n {S : Nat → Int32} {T k a : Nat} (h : ¬ (cE S T a = a ∨ ¬ sgn S T (cE S T a) 61) ∧ ¬ vE S T a = cE S T a + 1) : pW S T (k + 1) a = (if T ≤ vE S T a then 1 else if ¬ sgn S T (vE S T a) 59 then 0 else pW S T k (vE S T a + 1) + 1) := by rw [pW, if_neg h.1, if_neg h.2]
theorem pR_f {S : Nat → Int32} {T k a : Nat} {x : Int32} (h : ¬ (¬ (cE S T a = a ∨ ¬ sgn S T (cE S T a) 61) ∧ ¬ vE S T a = cE S T a + 1)) (h1 : (cE S T a = a ∨ ¬ sgn S T (cE S T a) 61) → x = nI (cE S T a)) (h2 : ¬ (cE S T a = a ∨ ¬ sgn S T (cE S T a) 61) → x = nI (vE S T a)) : x = pR S T (k + 1) a ∧ ∃ w, w ≤ a + T + 10 ∧ x = nI w := by
  have b1 := eon_b S T a 2
  have b2 := eon_b S T (cE S T a + 1) 4
  have e1 : cE S T a = eon S T a 2 := rfl
  have e2 : vE S T a = eon S T (cE S T a + 1) 4 := rfl
  rw [pR]
  by_cases q : cE S T a = a ∨ ¬ sgn S T (cE S T a) 61
  · rw [if_pos q]; exact ⟨h1 q, _, by omega, h1 q⟩
  · rw [if_neg q]
    have q2 : vE S T a = cE S T a + 1 := by
      by_cases z : vE S T a = cE S T a + 1
      · exact z
      · exact absurd ⟨q, z⟩ h
    rw [if_pos q2]; exact ⟨h2 q, _, by omega, h2 q⟩
def frF (G G1 : Nat → Nat → Int32) : Prop := (∀ q, q ≠ 0 → q ≠ 4 → q ≠ 5 → G1 q = G q) ∧ ∀ f, f ≠ 6 → f ≠ 7 → f ≠ 8 → G1 0 f = G 0 f
theorem frF_t {G G1 G2 : Nat → Nat → Int32} (h : frF G G1) (h2 : frF G1 G2) : frF G G2 := ⟨fun q a b c => (h2.1 q a b c).trans (h.1 q a b c), fun f a b c => (h2.2 f a b c).trans (h.2 f a b c)⟩
theorem frF_6 {G : Nat → Nat → Int32} {x : Int32} : frF G (gs G 0 6 x) := ⟨fun q a b c => gs_other a, fun f a b c => gs_row a⟩
theorem frF_8 {G : Nat → Nat → Int32} {x : Int32} : frF G (gs G 0 8 x) := ⟨fun q a b c => gs_other a, fun f a b c => gs_row c⟩
def FO (G G' : Nat → Nat → Int32) (T : Nat) (v : Int32) : Prop := v = (if pR (G 3) T 16 0 = -1 then -5 else pR (G 3) T 16 0) ∧ frF G G' ∧ (pR (G 3) T 16 0 = -1 → G' 0 8 = nI (pW (G 3) T 16 0) ∧ pW (G 3) T 16 0 ≤ 16 ∧ ∀ t, t < pW (G 3) T 16 0 → G' 4 t = wc (G 3) T t ∧ G' 5 t = wv (G 3) T t)
theorem FO_f {G G' : Nat → Nat → Int32} {T w : Nat} {v : Int32} (h : v = pR (G 3) T 16 0) (hv : v = nI w) (hw : w < 2 ^ 31) (hf : frF G G') : FO G G' T v := by
  have h1 : ¬ pR (G 3) T 16 0 = -1 := by rw [← h, hv]; exact nI_m1 hw
  exact ⟨by rw [if_neg h1]; exact h, hf, fun z => absurd z h1⟩
set_option maxHeartbeats 4000000 in
set_option maxRecDepth 100000 in
theorem c_X7_faultOf (l : Launch) {D : va_G} {τ : Nat → ClassId} {ad : Nat → Nat} (hI : kInj ad) {G : Nat → Nat → Int32} {T : Nat} (hT : G 0 5 = nI T) (hT6 : T ≤ 60) : kM l yX7_faultOf cX7_faultOf 1 (some .int) { frames := 4, cells := 0, slots := 0, locals := 87 } D τ ad [.ref (ad 0)] G (fun v G' => FO G G' T v) := by
  refine kMet (own := RX7) (by decide) rfl (Nat.le_of_ble_eq_true rfl) ?_
  intro p9 e9 s9 m9 args9 below9 meth9 c9 Q9 X hx hb hP hS hret ls hl
  have hPs := hP
  have hl : lv_has ls 1 [(0, .ref (ad 0))] := hl
  refine lv_aload_n hx hb dX7_faultOf_0 rfl (lv_at hl 0 rfl) ?_
  refine lv_iconst (v := nI 0) hx hb dX7_faultOf_1 (by decide) ?_
  refine kput X hI hP hS oJ g_X7_148 (fun _ => rfl) rfl (fun _ => Nat.le_of_ble_eq_true rfl) rfl rfl dX7_faultOf_2 (fun H locs hP hS => ?_)
  refine lv_aload_n hx hb dX7_faultOf_5 rfl (lv_at hl 0 rfl) ?_
  refine lv_iconst (v := nI 0) hx hb dX7_faultOf_6 (by decide) ?_
  refine kput X hI hP hS oJ g_X7_160 (fun _ => rfl) rfl (fun _ => Nat.le_of_ble_eq_true rfl) rfl rfl dX7_faultOf_7 (fun H locs hP hS => ?_)
  refine lv_aload_n hx hb dX7_faultOf_10 rfl (lv_at hl 0 rfl) ?_
  refine kcV X hP hS (c_X7_passesWrite l hI (T := T) (a := 0) (w := 0) (by simp [gs]; exact hT) hT6 (by simp [gs]) (by omega) (by simp [gs]) (by omega)) oJ v_X7_165 ⟨Nat.le_of_ble_eq_true rfl, Nat.le_of_ble_eq_true rfl, rfl, rfl⟩ rfl rfl (Nat.le_of_ble_eq_true rfl) hl.1 ⟨Nat.zero_le _, Nat.zero_le _⟩ dX7_faultOf_11 (fun r_11 G_11 H locs hR hP hS => ?_)
  obtain ⟨f1, f2, f3, rfl, f5, f6, f7⟩ := hR
  rw [gs_other (show (3 : Nat) ≠ 0 by omega), gs_other (show (3 : Nat) ≠ 0 by omega)] at f5 f6 f7 ⊢
  have hfr : frF G G_11 := frF_t (frF_t frF_6 frF_8) ⟨f1, f2⟩
  first
    | refine kif_ne (tgt := 22) hx hb dX7_faultOf_14 (by decide) (fun c_14 => ?_) (fun c_14 => ?_)
    | refine lv_if_ne (tgt := 22) hx hb dX7_faultOf_14 (by decide) (fun c_14 => ?_) (fun c_14 => ?_)
  · skip
    have hgb := good_b c_14
    have lp_22 : ∀ (d : Nat) (b i : Nat) (G1 : Nat → Nat → Int32) (H : Heap) (locs : List Loc) (ls : Array Slot), (16 - i) < d → (1 ≤ i ∧ i ≤ 16) → (b = vE (G 3) T (pA (G 3) T (i - 1))) → (b ≤ T ∧ 4 * i ≤ b + 1) → (G1 0 6 = nI b ∧ G1 0 8 = nI i) → (frF G G1) → (pR (G 3) T 16 0 = (if T ≤ b then -1 else if ¬ sgn (G 3) T b 59 then nI b else pR (G 3) T (16 - i) (b + 1))) → (pW (G 3) T 16 0 = (if T ≤ b then 1 else if ¬ sgn (G 3) T b 59 then 0 else pW (G 3) T (16 - i) (b + 1) + 1) + (i - 1)) → (∀ t, t < i → G1 4 t = wc (G 3) T t ∧ G1 5 t = wv (G 3) T t) → va_P D vwCl (kW τ ad G1) H → va_S (kAd ad) s9.heap H locs → lv_has ls 1 [(0, .ref (ad 0))] → W p9 l e9 { frames := 4, cells := 0, slots := 0, locals := 87 } s9 m9 args9 below9 meth9 c9 H locs 0 0 Q9 (F0 m9 22 ls []) := by
      intro d
      induction d with
      | zero => exact fun _ _ _ _ _ _ hd => absurd hd (Nat.not_lt_zero _)
      | succ d ih_22 =>
        intro b i G1 H locs ls hd iv_0 iv_1 iv_2 iv_3 iv_4 iv_5 iv_6 iv_7 hP hS hl
        have e5 : G1 0 5 = nI T := (iv_4.2 5 (by omega) (by omega) (by omega)).trans hT
        have e3 : G1 3 = G 3 := iv_4.1 3 (by omega) (by omega) (by omega)
        refine lv_aload_n hx hb dX7_faultOf_22 rfl (lv_at hl 0 rfl) ?_
        refine kget X hP oJ g_X7_148 (congrArg (fun z => some (Value.int z)) (show _ = nI b from iv_3.1)) dX7_faultOf_23 ?_
        refine lv_aload_n hx hb dX7_faultOf_26 rfl (lv_at hl 0 rfl) ?_
        refine kget X hP oJ g_X7_145 (congrArg (fun z => some (Value.int z)) (show G1 0 5 = nI T from e5)) dX7_faultOf_27 ?_
        first
          | refine kic_ge (tgt := 54) hx hb dX7_faultOf_30 (by decide) (by with_reducible rfl) (by with_reducible rfl) (by omega) (by omega) (fun c_30 => ?_) (fun c_30 => ?_)
          | refine lv_icmp_ge (tgt := 54) hx hb dX7_faultOf_30 (by decide) (fun c_30 => ?_) (fun c_30 => ?_)
        · skip
          refine lv_bipush (v := (-5)) hx hb dX7_faultOf_54 (by decide) ?_
          exact hret _ _ _ _ _ _ (⟨by rw [iv_5, if_pos c_30, if_pos rfl], iv_4, fun _ => by rw [iv_6, if_pos c_30, show 1 + (i - 1) = i by omega]; exact ⟨iv_3.2, iv_0.2, iv_7⟩⟩) hP hS dX7_faultOf_56
        · skip
          have hn1 : ¬ T ≤ b := by omega
          refine lv_aload_n hx hb dX7_faultOf_33 rfl (lv_at hl 0 rfl) ?_
          refine lv_bipush (v := nI 59) hx hb dX7_faultOf_34 (by decide) ?_
          refine kcV X hP hS (c_X7_passesSign l hI (T := T) (a := b) e5 hT6 iv_3.1 (by omega)) oJ v_X7_162 ⟨Nat.le_of_ble_eq_true rfl, Nat.le_of_ble_eq_true rfl, rfl, rfl⟩ rfl rfl (Nat.le_of_ble_eq_true rfl) hl.1 ⟨Nat.zero_le _, Nat.zero_le _⟩ dX7_faultOf_36 (fun r_36 G_36 H locs hR hP hS => ?_)
          obtain ⟨rfl, hG_36⟩ := hR
          rw [e3] at hG_36 ⊢
          first
            | refine kif_eq (tgt := 49) hx hb dX7_faultOf_39 (by decide) (fun c_39 => ?_) (fun c_39 => ?_)
            | refine lv_if_eq (tgt := 49) hx hb dX7_faultOf_39 (by decide) (fun c_39 => ?_) (fun c_39 => ?_)
          · skip
            rw [hG_36, if_neg c_39] at hP
            refine lv_aload_n hx hb dX7_faultOf_49 rfl (lv_at hl 0 rfl) ?_
            refine kget X hP oJ g_X7_148 rfl dX7_faultOf_50 ?_
            exact hret _ _ _ _ _ _ (FO_f (w := b) (by rw [iv_5, if_neg hn1, if_pos c_39]; simp [gs]) (by simp [gs]) (by omega) (frF_t iv_4 frF_6)) hP hS dX7_faultOf_53
          · skip
            rw [hG_36, if_pos c_39] at hP
            refine lv_aload_n hx hb dX7_faultOf_42 rfl (lv_at hl 0 rfl) ?_
            refine kcV X hP hS (c_X7_passesWrite l hI (T := T) (a := b + 1) (w := i) (by rw [gs_row (by omega)]; exact e5) hT6 (by simp [gs]) (by omega) (by rw [gs_row (by omega)]; exact iv_3.2) (by omega)) oJ v_X7_165 ⟨Nat.le_of_ble_eq_true rfl, Nat.le_of_ble_eq_true rfl, rfl, rfl⟩ rfl rfl (Nat.le_of_ble_eq_true rfl) hl.1 ⟨Nat.zero_le _, Nat.zero_le _⟩ dX7_faultOf_43 (fun r_43 G_43 H locs hR hP hS => ?_)
            obtain ⟨g1, g2, g3, rfl, g5, g6, g7⟩ := hR
            rw [gs_other (show (3 : Nat) ≠ 0 by omega), e3] at g5 g6 g7 ⊢
            have hfr : frF G G_43 := frF_t iv_4 (frF_t frF_6 ⟨g1, g2⟩)
            have hpa : pA (G 3) T i = b + 1 := by rw [show i = (i - 1) + 1 by omega, pA, ← iv_1]
            first
              | refine kif_ne (tgt := 22) hx hb dX7_faultOf_46 (by decide) (fun c_46 => ?_) (fun c_46 => ?_)
              | refine lv_if_ne (tgt := 22) hx hb dX7_faultOf_46 (by decide) (fun c_46 => ?_) (fun c_46 => ?_)
            · skip
              have hgb := good_b c_46
              exact ih_22 (vE (G 3) T (b + 1)) (i + 1) _ _ _ _ (by omega) (⟨by omega, by omega⟩) (by rw [Nat.add_sub_cancel, hpa]) (by omega) (⟨g6 c_46.1, (g7 (if_pos c_46)).1⟩) (hfr) (by rw [iv_5, if_neg hn1, if_neg (fun z => z c_39), show 16 - i = (16 - (i + 1)) + 1 by omega, pR_n c_46]) (by rw [iv_6, if_neg hn1, if_neg (fun z => z c_39), show 16 - i = (16 - (i + 1)) + 1 by omega, pW_n c_46]; omega) (fun t ht => by
                    by_cases e : t = i
                    · rw [e, wc, wv, hpa]; exact (g7 (if_pos c_46)).2
                    · have q := iv_7 t (by omega)
                      rw [(g3 t e).1, (g3 t e).2, gs_other (by omega), gs_other (by omega)]; exact q) hP hS (lv_sub hl [0] rfl)
            · skip
              obtain ⟨hv, w, hw1, hw2⟩ := pR_f (k := 16 - i - 1) c_46 g5 g6
              refine lv_aload_n hx hb dX7_faultOf_49 rfl (lv_at hl 0 rfl) ?_
              refine kget X hP oJ g_X7_148 rfl dX7_faultOf_50 ?_
              exact hret _ _ _ _ _ _ (FO_f (by rw [iv_5, if_neg hn1, if_neg (fun z => z c_39), show 16 - i = (16 - i - 1) + 1 by omega]; exact hv) hw2 (by omega) hfr) hP hS dX7_faultOf_53
    exact lp_22 _ (vE (G 3) T 0) 1 G_11 _ _ _ (Nat.lt_succ_self _) (⟨Nat.le_refl _, by omega⟩) (rfl) (by omega) (⟨f6 c_14.1, (f7 (if_pos c_14)).1⟩) (hfr) (pR_n c_14) (by rw [pW_n c_14]; rfl) (fun t ht => by rw [show t = 0 by omega]; exact (f7 (if_pos c_14)).2) hP hS (lv_sub hl [0] rfl)
  · skip
    obtain ⟨hv, w, hw1, hw2⟩ := pR_f (k := 15) c_14 f5 f6
    refine lv_aload_n hx hb dX7_faultOf_17 rfl (lv_at hl 0 rfl) ?_
    refine kget X hP oJ g_X7_148 rfl dX7_faultOf_18 ?_
    exact hret _ _ _ _ _ _ (FO_f hv hw2 (by omega) hfr) hP hS dX7_faultOf_21
