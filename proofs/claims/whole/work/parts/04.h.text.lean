
/-- a digit of the text, a sign of it -/
abbrev dgt (S : Nat → Int32) (T p : Nat) : Prop := p < T ∧ nI 48 ≤ S p ∧ S p ≤ nI 57
abbrev sgn (S : Nat → Int32) (T p s : Nat) : Prop := p < T ∧ S p = nI s
/-- behind at most k digits from e on -/
def rnn (S : Nat → Int32) (T : Nat) : Nat → Nat → Nat
  | e, 0 => e
  | e, k + 1 => if dgt S T e then rnn S T (e + 1) k else e
def eon (S : Nat → Int32) (T a m : Nat) : Nat := rnn S T a (if sgn S T a 48 then 1 else m)
theorem rnn_s {S : Nat → Int32} {T e k : Nat} (hk : 0 < k) (h : dgt S T e) : rnn S T e k = rnn S T (e + 1) (k - 1) := by
  obtain ⟨q, rfl⟩ : ∃ q, k = q + 1 := ⟨k - 1, by omega⟩
  rw [rnn, if_pos h]; rfl
theorem rnn_z {S : Nat → Int32} {T e k : Nat} (h : k = 0 ∨ ¬ dgt S T e) : rnn S T e k = e := by
  cases k with
  | zero => rfl
  | succ q => rw [rnn, if_neg (h.resolve_left (by omega))]
theorem rnn_b (S : Nat → Int32) (T : Nat) (k : Nat) : ∀ e, e ≤ rnn S T e k ∧ (rnn S T e k ≤ T ∨ rnn S T e k = e) ∧ rnn S T e k ≤ e + k := by
  induction k with
  | zero => intro e; exact ⟨Nat.le_refl _, Or.inr rfl, Nat.le_refl _⟩
  | succ k ih =>
    intro e
    rw [rnn]
    by_cases h : dgt S T e
    · rw [if_pos h]
      obtain ⟨a, b, d⟩ := ih (e + 1)
      have := h.1
      omega
    · rw [if_neg h]
      exact ⟨Nat.le_refl _, Or.inr rfl, by omega⟩
theorem eon_b (S : Nat → Int32) (T a m : Nat) : a ≤ eon S T a m ∧ (eon S T a m ≤ T ∨ eon S T a m = a) := ⟨(rnn_b S T _ a).1, (rnn_b S T _ a).2.1⟩
/-- the number of the digits from a on -/
def nmF (S : Nat → Int32) (a : Nat) : Nat → Int32
  | 0 => nI 0
  | k + 1 => nmF S a k * nI 10 + (S (a + k) - nI 48)
def mxF (C : Nat → Int32) : Nat → Int32
  | 0 => nI 0
  | k + 1 => if mxF C k < C k then C k else mxF C k
set_option maxHeartbeats 4000000 in
set_option maxRecDepth 100000 in
theorem c_X5_add (l : Launch) {D : va_G} {τ : Nat → ClassId} {ad : Nat → Nat} (hI : kInj ad) {G : Nat → Nat → Int32} {T q : Nat} (hT : G 10 1 = nI T) (hT6 : T < 60) (hq : q < 65536) : kMv l yX5_add cX5_add 2 { frames := 0, cells := 0, slots := 0, locals := 0 } D τ ad [.ref (ad 10), .int (nI q)] G (fun G' => G' = gs (gs G 11 T (nI q)) 10 1 (nI (T + 1))) := by
  refine kMetV (own := RX5) (by decide) rfl (Nat.le_of_ble_eq_true rfl) ?_
  intro p9 e9 s9 m9 args9 below9 meth9 c9 Q9 X hx hb hP hS hret ls hl
  have hPs := hP
  have hl : lv_has ls 2 [(0, .ref (ad 10)), (1, .int (nI q))] := hl
  refine lv_aload_n hx hb dX5_add_0 rfl (lv_at hl 0 rfl) ?_
  refine kget X hP oT g_X5_22 (congrArg (fun z => some (Value.int z)) hT) dX5_add_1 ?_
  refine lv_bipush (v := nI 60) hx hb dX5_add_4 (by decide) ?_
  first
    | refine kic_ge (tgt := 29) hx hb dX5_add_6 (by decide) (by with_reducible rfl) (by with_reducible rfl) (by omega) (by omega) (fun c_6 => ?_) (fun c_6 => ?_)
    | refine lv_icmp_ge (tgt := 29) hx hb dX5_add_6 (by decide) (fun c_6 => ?_) (fun c_6 => ?_)
  · skip
    exact absurd c_6 (by omega)
  · skip
    refine lv_aload_n hx hb dX5_add_9 rfl (lv_at hl 0 rfl) ?_
    refine kget X hP oT g_X5_9 rfl dX5_add_10 ?_
    refine lv_aload_n hx hb dX5_add_13 rfl (lv_at hl 0 rfl) ?_
    refine kget X hP oT g_X5_22 (congrArg (fun z => some (Value.int z)) hT) dX5_add_14 ?_
    refine lv_iload_n hx hb dX5_add_17 rfl (lv_at hl 1 rfl) ?_
    refine kcast X hI hP hS aT hT6 (by unfold vp_nar; rw [(pk_charN hq).1]) dX5_add_18 (fun H locs hP hS => ?_)
    refine lv_aload_n hx hb dX5_add_19 rfl (lv_at hl 0 rfl) ?_
    refine lv_dup hx hb dX5_add_20 rfl ?_
    refine kget X hP oT g_X5_22 (congrArg (fun z => some (Value.int z)) (by simp [gs, hT] : _ = nI T)) dX5_add_21 ?_
    refine lv_iconst (v := nI 1) hx hb dX5_add_24 (by decide) ?_
    first
      | refine kadd hx hb dX5_add_25 (by with_reducible rfl) (by with_reducible rfl) ?_
      | refine lv_iadd hx hb dX5_add_25 ?_
    refine kput X hI hP hS oT g_X5_22 (fun _ => rfl) rfl (fun _ => Nat.le_of_ble_eq_true rfl) rfl rfl dX5_add_26 (fun H locs hP hS => ?_)
    exact hret _ _ _ _ _ (rfl) hP hS dX5_add_29

set_option maxHeartbeats 4000000 in
set_option maxRecDepth 100000 in
theorem c_X5_isSign (l : Launch) {D : va_G} {τ : Nat → ClassId} {ad : Nat → Nat} (hI : kInj ad) {G : Nat → Nat → Int32} {T a b : Nat} (hT : G 10 1 = nI T) (hT6 : T ≤ 60) (ha : a < 100) : kM l yX5_isSign cX5_isSign 3 (some .boolean) { frames := 0, cells := 0, slots := 0, locals := 0 } D τ ad [.ref (ad 10), .int (nI a), .int (nI b)] G (fun v G' => v = (if sgn (G 11) T a b then 1 else 0) ∧ G' = G) := by
  refine kMetZ (own := RX5) (by decide) rfl (Nat.le_of_ble_eq_true rfl) ?_
  intro p9 e9 s9 m9 args9 below9 meth9 c9 Q9 X hx hb hP hS hret ls hl
  have hPs := hP
  have hl : lv_has ls 3 [(0, .ref (ad 10)), (1, .int (nI a)), (2, .int (nI b))] := hl
  refine lv_iload_n hx hb dX5_isSign_0 rfl (lv_at hl 1 rfl) ?_
  refine lv_aload_n hx hb dX5_isSign_1 rfl (lv_at hl 0 rfl) ?_
  refine kget X hP oT g_X5_22 (congrArg (fun z => some (Value.int z)) hT) dX5_isSign_2 ?_
  first
    | refine kic_ge (tgt := 22) hx hb dX5_isSign_5 (by decide) (by with_reducible rfl) (by with_reducible rfl) (by omega) (by omega) (fun c_5 => ?_) (fun c_5 => ?_)
    | refine lv_icmp_ge (tgt := 22) hx hb dX5_isSign_5 (by decide) (fun c_5 => ?_) (fun c_5 => ?_)
  · skip
    refine lv_iconst (v := nI 0) hx hb dX5_isSign_22 (by decide) ?_
    exact hret _ _ _ _ _ _ (by decide) (⟨(if_neg (fun z => absurd z.1 (by omega))).symm, rfl⟩) hP hS dX5_isSign_23
  · skip
    refine lv_aload_n hx hb dX5_isSign_8 rfl (lv_at hl 0 rfl) ?_
    refine kget X hP oT g_X5_9 rfl dX5_isSign_9 ?_
    refine lv_iload_n hx hb dX5_isSign_12 rfl (lv_at hl 1 rfl) ?_
    refine kcald X hP aT (by omega) dX5_isSign_13 ?_
    refine lv_iload_n hx hb dX5_isSign_14 rfl (lv_at hl 2 rfl) ?_
    first
      | refine kic_ne (tgt := 22) hx hb dX5_isSign_15 (by decide) (by with_reducible rfl) (by with_reducible rfl) (by omega) (by omega) (fun c_15 => ?_) (fun c_15 => ?_)
      | refine lv_icmp_ne (tgt := 22) hx hb dX5_isSign_15 (by decide) (fun c_15 => ?_) (fun c_15 => ?_)
    · skip
      refine lv_iconst (v := nI 0) hx hb dX5_isSign_22 (by decide) ?_
      exact hret _ _ _ _ _ _ (by decide) (⟨(if_neg (fun z => c_15 z.2)).symm, rfl⟩) hP hS dX5_isSign_23
    · skip
      refine lv_iconst (v := nI 1) hx hb dX5_isSign_18 (by decide) ?_
      refine lv_goto (tgt := 23) hx hb dX5_isSign_19 (by decide) ?_
      exact hret _ _ _ _ _ _ (by decide) (⟨(if_pos ⟨c_5, c_15⟩).symm, rfl⟩) hP hS dX5_isSign_23

set_option maxHeartbeats 4000000 in
set_option maxRecDepth 100000 in
theorem c_X5_isDigit (l : Launch) {D : va_G} {τ : Nat → ClassId} {ad : Nat → Nat} (hI : kInj ad) {G : Nat → Nat → Int32} {T a : Nat} (hT : G 10 1 = nI T) (hT6 : T ≤ 60) (ha : a < 100) : kM l yX5_isDigit cX5_isDigit 2 (some .boolean) { frames := 0, cells := 0, slots := 0, locals := 0 } D τ ad [.ref (ad 10), .int (nI a)] G (fun v G' => v = (if dgt (G 11) T a then 1 else 0) ∧ G' = G) := by
  refine kMetZ (own := RX5) (by decide) rfl (Nat.le_of_ble_eq_true rfl) ?_
  intro p9 e9 s9 m9 args9 below9 meth9 c9 Q9 X hx hb hP hS hret ls hl
  have hPs := hP
  have hl : lv_has ls 2 [(0, .ref (ad 10)), (1, .int (nI a))] := hl
  refine lv_iload_n hx hb dX5_isDigit_0 rfl (lv_at hl 1 rfl) ?_
  refine lv_aload_n hx hb dX5_isDigit_1 rfl (lv_at hl 0 rfl) ?_
  refine kget X hP oT g_X5_22 (congrArg (fun z => some (Value.int z)) hT) dX5_isDigit_2 ?_
  first
    | refine kic_ge (tgt := 34) hx hb dX5_isDigit_5 (by decide) (by with_reducible rfl) (by with_reducible rfl) (by omega) (by omega) (fun c_5 => ?_) (fun c_5 => ?_)
    | refine lv_icmp_ge (tgt := 34) hx hb dX5_isDigit_5 (by decide) (fun c_5 => ?_) (fun c_5 => ?_)
  · skip
    refine lv_iconst (v := nI 0) hx hb dX5_isDigit_34 (by decide) ?_
    exact hret _ _ _ _ _ _ (by decide) (⟨(if_neg (fun z => absurd z.1 (by omega))).symm, rfl⟩) hP hS dX5_isDigit_35
  · skip
    refine lv_aload_n hx hb dX5_isDigit_8 rfl (lv_at hl 0 rfl) ?_
    refine kget X hP oT g_X5_9 rfl dX5_isDigit_9 ?_
    refine lv_iload_n hx hb dX5_isDigit_12 rfl (lv_at hl 1 rfl) ?_
    refine kcald X hP aT (by omega) dX5_isDigit_13 ?_
    refine lv_bipush (v := nI 48) hx hb dX5_isDigit_14 (by decide) ?_
    first
      | refine kic_lt (tgt := 34) hx hb dX5_isDigit_16 (by decide) (by with_reducible rfl) (by with_reducible rfl) (by omega) (by omega) (fun c_16 => ?_) (fun c_16 => ?_)
      | refine lv_icmp_lt (tgt := 34) hx hb dX5_isDigit_16 (by decide) (fun c_16 => ?_) (fun c_16 => ?_)
    · skip
      refine lv_iconst (v := nI 0) hx hb dX5_isDigit_34 (by decide) ?_
      exact hret _ _ _ _ _ _ (by decide) (⟨(if_neg (fun z => Int32.not_le.mpr c_16 z.2.1)).symm, rfl⟩) hP hS dX5_isDigit_35
    · skip
      refine lv_aload_n hx hb dX5_isDigit_19 rfl (lv_at hl 0 rfl) ?_
      refine kget X hP oT g_X5_9 rfl dX5_isDigit_20 ?_
      refine lv_iload_n hx hb dX5_isDigit_23 rfl (lv_at hl 1 rfl) ?_
      refine kcald X hP aT (by omega) dX5_isDigit_24 ?_
      refine lv_bipush (v := nI 57) hx hb dX5_isDigit_25 (by decide) ?_
      first
        | refine kic_gt (tgt := 34) hx hb dX5_isDigit_27 (by decide) (by with_reducible rfl) (by with_reducible rfl) (by omega) (by omega) (fun c_27 => ?_) (fun c_27 => ?_)
        | refine lv_icmp_gt (tgt := 34) hx hb dX5_isDigit_27 (by decide) (fun c_27 => ?_) (fun c_27 => ?_)
      · skip
        refine lv_iconst (v := nI 0) hx hb dX5_isDigit_34 (by decide) ?_
        exact hret _ _ _ _ _ _ (by decide) (⟨(if_neg (fun z => Int32.not_le.mpr c_27 z.2.2)).symm, rfl⟩) hP hS dX5_isDigit_35
      · skip
        refine lv_iconst (v := nI 1) hx hb dX5_isDigit_30 (by decide) ?_
        refine lv_goto (tgt := 35) hx hb dX5_isDigit_31 (by decide) ?_
        exact hret _ _ _ _ _ _ (by decide) (⟨(if_pos ⟨c_5, Int32.not_lt.mp c_16, Int32.not_lt.mp c_27⟩).symm, rfl⟩) hP hS dX5_isDigit_35

set_option maxHeartbeats 4000000 in
set_option maxRecDepth 100000 in
theorem c_X5_endOfNumber (l : Launch) {D : va_G} {τ : Nat → ClassId} {ad : Nat → Nat} (hI : kInj ad) {G : Nat → Nat → Int32} {T a m : Nat} (hT : G 10 1 = nI T) (hT6 : T ≤ 60) (ha : a < 90) (hm : 1 ≤ m ∧ m ≤ 4) : kM l yX5_endOfNumber cX5_endOfNumber 5 (some .int) { frames := 1, cells := 0, slots := 0, locals := 22 } D τ ad [.ref (ad 10), .int (nI a), .int (nI m)] G (fun v G' => v = nI (eon (G 11) T a m) ∧ G' = G) := by
  refine kMet (own := RX5) (by decide) rfl (Nat.le_of_ble_eq_true rfl) ?_
  intro p9 e9 s9 m9 args9 below9 meth9 c9 Q9 X hx hb hP hS hret ls hl
  have hPs := hP
  have hl : lv_has ls 5 [(0, .ref (ad 10)), (1, .int (nI a)), (2, .int (nI m))] := hl
  refine lv_aload_n hx hb dX5_endOfNumber_0 rfl (lv_at hl 0 rfl) ?_
  refine lv_iload_n hx hb dX5_endOfNumber_1 rfl (lv_at hl 1 rfl) ?_
  refine lv_bipush (v := nI 48) hx hb dX5_endOfNumber_2 (by decide) ?_
  refine kcV X hP hS (c_X5_isSign l hI (b := 48) hT hT6 (by omega)) oT v_X5_30 ⟨Nat.le_of_ble_eq_true rfl, Nat.le_of_ble_eq_true rfl, rfl, rfl⟩ rfl rfl (Nat.le_of_ble_eq_true rfl) hl.1 ⟨Nat.zero_le _, Nat.zero_le _⟩ dX5_endOfNumber_4 (fun r_4 G_4 H locs hR hP hS => ?_)
  obtain ⟨rfl, hG_4⟩ := hR
  rw [hG_4] at hP
  clear hG_4
  first
    | refine kif_eq (tgt := 14) hx hb dX5_endOfNumber_7 (by decide) (fun c_7 => ?_) (fun c_7 => ?_)
    | refine lv_if_eq (tgt := 14) hx hb dX5_endOfNumber_7 (by decide) (fun c_7 => ?_) (fun c_7 => ?_)
  · skip
    have hmo : eon (G 11) T a m = rnn (G 11) T a m := by rw [eon, if_neg c_7]
    have hmo1 : 1 ≤ m ∧ m ≤ 4 := hm
    refine lv_iload_n hx hb dX5_endOfNumber_14 rfl (lv_at hl 2 rfl) ?_
    refine kist hx hb dX5_endOfNumber_15 rfl hl (by decide) (kp_3_3 rfl) (fun ls hl => ?_)
    refine lv_iload_n hx hb dX5_endOfNumber_16 rfl (lv_at hl 1 rfl) ?_
    refine kistW hx hb dX5_endOfNumber_17 hl (by decide) (kp_4_4 rfl) (fun ls hl => ?_)
    have lp_19 : ∀ (d : Nat) (i mo : Nat) (H : Heap) (locs : List Loc) (ls : Array Slot), (mo + a - i) < d → (a ≤ i ∧ i ≤ a + mo) → (1 ≤ mo ∧ mo ≤ 4) → (eon (G 11) T a m = rnn (G 11) T i (mo + a - i)) → va_P D vwCl (kW τ ad G) H → va_S (kAd ad) s9.heap H locs → lv_has ls 5 [(0, .ref (ad 10)), (1, .int (nI a)), (2, .int (nI m)), (3, .int (nI mo)), (4, .int (nI i))] → W p9 l e9 { frames := 1, cells := 0, slots := 0, locals := 22 } s9 m9 args9 below9 meth9 c9 H locs 0 0 Q9 (F0 m9 19 ls []) := by
      intro d
      induction d with
      | zero => exact fun _ _ _ _ _ hd => absurd hd (Nat.not_lt_zero _)
      | succ d ih_19 =>
        intro i mo H locs ls hd iv_0 iv_1 iv_2 hP hS hl
        refine lv_iload hx hb dX5_endOfNumber_19 (lv_at hl 4 rfl) ?_
        refine lv_iload_n hx hb dX5_endOfNumber_21 rfl (lv_at hl 1 rfl) ?_
        first
          | refine ksub hx hb dX5_endOfNumber_22 (by with_reducible rfl) (by with_reducible rfl) (by omega) ?_
          | refine lv_isub hx hb dX5_endOfNumber_22 ?_
        refine lv_iload_n hx hb dX5_endOfNumber_23 rfl (lv_at hl 3 rfl) ?_
        first
          | refine kic_ge (tgt := 42) hx hb dX5_endOfNumber_24 (by decide) (by with_reducible rfl) (by with_reducible rfl) (by omega) (by omega) (fun c_24 => ?_) (fun c_24 => ?_)
          | refine lv_icmp_ge (tgt := 42) hx hb dX5_endOfNumber_24 (by decide) (fun c_24 => ?_) (fun c_24 => ?_)
        · skip
          refine lv_iload hx hb dX5_endOfNumber_42 (lv_at hl 4 rfl) ?_
          exact hret _ _ _ _ _ _ (⟨congrArg nI (iv_2.trans (rnn_z (k := mo + a - i) (Or.inl (by omega)))).symm, rfl⟩) hP hS dX5_endOfNumber_44
        · skip
          refine lv_aload_n hx hb dX5_endOfNumber_27 rfl (lv_at hl 0 rfl) ?_
          refine lv_iload hx hb dX5_endOfNumber_28 (lv_at hl 4 rfl) ?_
          refine kcV X hP hS (c_X5_isDigit l hI hT hT6 (by omega)) oT v_X5_45 ⟨Nat.le_of_ble_eq_true rfl, Nat.le_of_ble_eq_true rfl, rfl, rfl⟩ rfl rfl (Nat.le_of_ble_eq_true rfl) hl.1 ⟨Nat.zero_le _, Nat.zero_le _⟩ dX5_endOfNumber_30 (fun r_30 G_30 H locs hR hP hS => ?_)
          obtain ⟨rfl, hG_30⟩ := hR
          rw [hG_30] at hP
          clear hG_30
          first
            | refine kif_eq (tgt := 42) hx hb dX5_endOfNumber_33 (by decide) (fun c_33 => ?_) (fun c_33 => ?_)
            | refine lv_if_eq (tgt := 42) hx hb dX5_endOfNumber_33 (by decide) (fun c_33 => ?_) (fun c_33 => ?_)
          · skip
            refine lv_iload hx hb dX5_endOfNumber_42 (lv_at hl 4 rfl) ?_
            exact hret _ _ _ _ _ _ (⟨congrArg nI (iv_2.trans (rnn_z (Or.inr c_33))).symm, rfl⟩) hP hS dX5_endOfNumber_44
          · skip
            first
              | refine kinc (q := 4) hx hb dX5_endOfNumber_36 hl rfl (by decide) (kp_5_4 rfl) (fun ls hl => ?_)
              | refine kincG (q := 4) hx hb dX5_endOfNumber_36 hl rfl (by decide) (kp_5_4 rfl) (fun ls hl => ?_)
            refine lv_goto (tgt := 19) hx hb dX5_endOfNumber_39 (by decide) ?_
            exact ih_19 _ _ _ _ _ (by omega) (by omega) (iv_1) (by rw [iv_2, rnn_s (by omega) c_33]; congr 1) hP hS (lv_sub hl [0,1,2,3,4] rfl)
    exact lp_19 _ _ _ _ _ _ (Nat.lt_succ_self _) (⟨Nat.le_refl _, by omega⟩) (hmo1) (by rw [Nat.add_sub_cancel]; exact hmo) hP hS (lv_sub hl [0,1,2,3,4] rfl)
  · skip
    have hmo : eon (G 11) T a m = rnn (G 11) T a 1 := by rw [eon, if_pos c_7]
    have hmo1 : 1 ≤ 1 ∧ 1 ≤ 4 := ⟨by omega, by omega⟩
    refine lv_iconst (v := nI 1) hx hb dX5_endOfNumber_10 (by decide) ?_
    refine lv_goto (tgt := 15) hx hb dX5_endOfNumber_11 (by decide) ?_
    refine kist hx hb dX5_endOfNumber_15 rfl hl (by decide) (kp_3_3 rfl) (fun ls hl => ?_)
    refine lv_iload_n hx hb dX5_endOfNumber_16 rfl (lv_at hl 1 rfl) ?_
    refine kistW hx hb dX5_endOfNumber_17 hl (by decide) (kp_4_4 rfl) (fun ls hl => ?_)
    have lp_19 : ∀ (d : Nat) (i mo : Nat) (H : Heap) (locs : List Loc) (ls : Array Slot), (mo + a - i) < d → (a ≤ i ∧ i ≤ a + mo) → (1 ≤ mo ∧ mo ≤ 4) → (eon (G 11) T a m = rnn (G 11) T i (mo + a - i)) → va_P D vwCl (kW τ ad G) H → va_S (kAd ad) s9.heap H locs → lv_has ls 5 [(0, .ref (ad 10)), (1, .int (nI a)), (2, .int (nI m)), (3, .int (nI mo)), (4, .int (nI i))] → W p9 l e9 { frames := 1, cells := 0, slots := 0, locals := 22 } s9 m9 args9 below9 meth9 c9 H locs 0 0 Q9 (F0 m9 19 ls []) := by
      intro d
      induction d with
      | zero => exact fun _ _ _ _ _ hd => absurd hd (Nat.not_lt_zero _)
      | succ d ih_19 =>
        intro i mo H locs ls hd iv_0 iv_1 iv_2 hP hS hl
        refine lv_iload hx hb dX5_endOfNumber_19 (lv_at hl 4 rfl) ?_
        refine lv_iload_n hx hb dX5_endOfNumber_21 rfl (lv_at hl 1 rfl) ?_
        first
          | refine ksub hx hb dX5_endOfNumber_22 (by with_reducible rfl) (by with_reducible rfl) (by omega) ?_
          | refine lv_isub hx hb dX5_endOfNumber_22 ?_
        refine lv_iload_n hx hb dX5_endOfNumber_23 rfl (lv_at hl 3 rfl) ?_
        first
          | refine kic_ge (tgt := 42) hx hb dX5_endOfNumber_24 (by decide) (by with_reducible rfl) (by with_reducible rfl) (by omega) (by omega) (fun c_24 => ?_) (fun c_24 => ?_)
          | refine lv_icmp_ge (tgt := 42) hx hb dX5_endOfNumber_24 (by decide) (fun c_24 => ?_) (fun c_24 => ?_)
        · skip
          refine lv_iload hx hb dX5_endOfNumber_42 (lv_at hl 4 rfl) ?_
          exact hret _ _ _ _ _ _ (⟨congrArg nI (iv_2.trans (rnn_z (k := mo + a - i) (Or.inl (by omega)))).symm, rfl⟩) hP hS dX5_endOfNumber_44
        · skip
          refine lv_aload_n hx hb dX5_endOfNumber_27 rfl (lv_at hl 0 rfl) ?_
          refine lv_iload hx hb dX5_endOfNumber_28 (lv_at hl 4 rfl) ?_
          refine kcV X hP hS (c_X5_isDigit l hI hT hT6 (by omega)) oT v_X5_45 ⟨Nat.le_of_ble_eq_true rfl, Nat.le_of_ble_eq_true rfl, rfl, rfl⟩ rfl rfl (Nat.le_of_ble_eq_true rfl) hl.1 ⟨Nat.zero_le _, Nat.zero_le _⟩ dX5_endOfNumber_30 (fun r_30 G_30 H locs hR hP hS => ?_)
          obtain ⟨rfl, hG_30⟩ := hR
          rw [hG_30] at hP
          clear hG_30
          first
            | refine kif_eq (tgt := 42) hx hb dX5_endOfNumber_33 (by decide) (fun c_33 => ?_) (fun c_33 => ?_)
            | refine lv_if_eq (tgt := 42) hx hb dX5_endOfNumber_33 (by decide) (fun c_33 => ?_) (fun c_33 => ?_)
          · skip
            refine lv_iload hx hb dX5_endOfNumber_42 (lv_at hl 4 rfl) ?_
            exact hret _ _ _ _ _ _ (⟨congrArg nI (iv_2.trans (rnn_z (Or.inr c_33))).symm, rfl⟩) hP hS dX5_endOfNumber_44
          · skip
            first
              | refine kinc (q := 4) hx hb dX5_endOfNumber_36 hl rfl (by decide) (kp_5_4 rfl) (fun ls hl => ?_)
              | refine kincG (q := 4) hx hb dX5_endOfNumber_36 hl rfl (by decide) (kp_5_4 rfl) (fun ls hl => ?_)
            refine lv_goto (tgt := 19) hx hb dX5_endOfNumber_39 (by decide) ?_
            exact ih_19 _ _ _ _ _ (by omega) (by omega) (iv_1) (by rw [iv_2, rnn_s (by omega) c_33]; congr 1) hP hS (lv_sub hl [0,1,2,3,4] rfl)
    exact lp_19 _ _ _ _ _ _ (Nat.lt_succ_self _) (⟨Nat.le_refl _, by omega⟩) (hmo1) (by rw [Nat.add_sub_cancel]; exact hmo) hP hS (lv_sub hl [0,1,2,3,4] rfl)

set_option maxHeartbeats 4000000 in
set_option maxRecDepth 100000 in
theorem c_X5_number (l : Launch) {D : va_G} {τ : Nat → ClassId} {ad : Nat → Nat} (hI : kInj ad) {G : Nat → Nat → Int32} {T a b : Nat} (hT : G 10 1 = nI T) (hT6 : T ≤ 60) (hab : a ≤ b) (hb : b ≤ T) : kM l yX5_number cX5_number 5 (some .int) { frames := 0, cells := 0, slots := 0, locals := 0 } D τ ad [.ref (ad 10), .int (nI a), .int (nI b)] G (fun v G' => v = nmF (G 11) a (b - a) ∧ G' = G) := by
  refine kMet (own := RX5) (by decide) rfl (Nat.le_of_ble_eq_true rfl) ?_
  intro p9 e9 s9 m9 args9 below9 meth9 c9 Q9 X hx hb hP hS hret ls hl
  have hPs := hP
  have hl : lv_has ls 5 [(0, .ref (ad 10)), (1, .int (nI a)), (2, .int (nI b))] := hl
  refine lv_iconst (v := nI 0) hx hb dX5_number_0 (by decide) ?_
  refine kist hx hb dX5_number_1 rfl hl (by decide) (kp_3_3 rfl) (fun ls hl => ?_)
  refine lv_iload_n hx hb dX5_number_2 rfl (lv_at hl 1 rfl) ?_
  refine kistW hx hb dX5_number_3 hl (by decide) (kp_4_4 rfl) (fun ls hl => ?_)
  have lp_5 : ∀ (d : Nat) (i : Nat) (x : Int32) (H : Heap) (locs : List Loc) (ls : Array Slot), (b - i) < d → (a ≤ i ∧ i ≤ b) → (x = nmF (G 11) a (i - a)) → va_P D vwCl (kW τ ad G) H → va_S (kAd ad) s9.heap H locs → lv_has ls 5 [(0, .ref (ad 10)), (1, .int (nI a)), (2, .int (nI b)), (3, .int x), (4, .int (nI i))] → W p9 l e9 { frames := 0, cells := 0, slots := 0, locals := 0 } s9 m9 args9 below9 meth9 c9 H locs 0 0 Q9 (F0 m9 5 ls []) := by
    intro d
    induction d with
    | zero => exact fun _ _ _ _ _ hd => absurd hd (Nat.not_lt_zero _)
    | succ d ih_5 =>
      intro i x H locs ls hd iv_0 iv_1 hP hS hl
      refine lv_iload hx hb dX5_number_5 (lv_at hl 4 rfl) ?_
      refine lv_iload_n hx hb dX5_number_7 rfl (lv_at hl 2 rfl) ?_
      first
        | refine kic_ge (tgt := 33) hx hb dX5_number_8 (by decide) (by with_reducible rfl) (by with_reducible rfl) (by omega) (by omega) (fun c_8 => ?_) (fun c_8 => ?_)
        | refine lv_icmp_ge (tgt := 33) hx hb dX5_number_8 (by decide) (fun c_8 => ?_) (fun c_8 => ?_)
      · skip
        refine lv_iload_n hx hb dX5_number_33 rfl (lv_at hl 3 rfl) ?_
        exact hret _ _ _ _ _ _ (⟨iv_1.trans (by rw [show i = b by omega]), rfl⟩) hP hS dX5_number_34
      · skip
        refine lv_iload_n hx hb dX5_number_11 rfl (lv_at hl 3 rfl) ?_
        refine lv_bipush (v := nI 10) hx hb dX5_number_12 (by decide) ?_
        first
          | refine kmul hx hb dX5_number_14 (by with_reducible rfl) (by with_reducible rfl) ?_
          | refine lv_imul hx hb dX5_number_14 ?_
        refine lv_aload_n hx hb dX5_number_15 rfl (lv_at hl 0 rfl) ?_
        refine kget X hP oT g_X5_9 rfl dX5_number_16 ?_
        refine lv_iload hx hb dX5_number_19 (lv_at hl 4 rfl) ?_
        refine kcald X hP aT (by omega) dX5_number_21 ?_
        refine lv_bipush (v := nI 48) hx hb dX5_number_22 (by decide) ?_
        first
          | refine ksub hx hb dX5_number_24 (by with_reducible rfl) (by with_reducible rfl) (by omega) ?_
          | refine lv_isub hx hb dX5_number_24 ?_
        first
          | refine kadd hx hb dX5_number_25 (by with_reducible rfl) (by with_reducible rfl) ?_
          | refine lv_iadd hx hb dX5_number_25 ?_
        refine kist hx hb dX5_number_26 rfl hl (by decide) (kp_5_3 rfl) (fun ls hl => ?_)
        first
          | refine kinc (q := 4) hx hb dX5_number_27 hl rfl (by decide) (kp_5_4 rfl) (fun ls hl => ?_)
          | refine kincG (q := 4) hx hb dX5_number_27 hl rfl (by decide) (kp_5_4 rfl) (fun ls hl => ?_)
        refine lv_goto (tgt := 5) hx hb dX5_number_30 (by decide) ?_
        exact ih_5 _ _ _ _ _ (by omega) (by omega) (by rw [show i + 1 - a = (i - a) + 1 by omega, nmF, iv_1, show a + (i - a) = i by omega]) hP hS (lv_sub hl [0,1,2,3,4] rfl)
  exact lp_5 _ _ _ _ _ _ (Nat.lt_succ_self _) (⟨Nat.le_refl _, hab⟩) (by rw [Nat.sub_self]; rfl) hP hS (lv_sub hl [0,1,2,3,4] rfl)

set_option maxHeartbeats 4000000 in
set_option maxRecDepth 100000 in
theorem c_X5_greatestCell (l : Launch) {D : va_G} {τ : Nat → ClassId} {ad : Nat → Nat} (hI : kInj ad) {G : Nat → Nat → Int32} {w : Nat} (hw0 : G 10 4 = nI w) (hw1 : w ≤ 16) : kM l yX5_greatestCell cX5_greatestCell 3 (some .int) { frames := 1, cells := 0, slots := 0, locals := 30 } D τ ad [.ref (ad 10)] G (fun v G' => v = mxF (G 12) w ∧ G' = G) := by
  refine kMet (own := RX5) (by decide) rfl (Nat.le_of_ble_eq_true rfl) ?_
  intro p9 e9 s9 m9 args9 below9 meth9 c9 Q9 X hx hb hP hS hret ls hl
  have hPs := hP
  have hl : lv_has ls 3 [(0, .ref (ad 10))] := hl
  refine lv_iconst (v := nI 0) hx hb dX5_greatestCell_0 (by decide) ?_
  refine kist hx hb dX5_greatestCell_1 rfl hl (by decide) (kp_1_1 rfl) (fun ls hl => ?_)
  refine lv_iconst (v := nI 0) hx hb dX5_greatestCell_2 (by decide) ?_
  refine kist hx hb dX5_greatestCell_3 rfl hl (by decide) (kp_2_2 rfl) (fun ls hl => ?_)
  have lp_4 : ∀ (d : Nat) (i : Nat) (x : Int32) (H : Heap) (locs : List Loc) (ls : Array Slot), (w - i) < d → (i ≤ w) → (x = mxF (G 12) i) → va_P D vwCl (kW τ ad G) H → va_S (kAd ad) s9.heap H locs → lv_has ls 3 [(0, .ref (ad 10)), (1, .int x), (2, .int (nI i))] → W p9 l e9 { frames := 1, cells := 0, slots := 0, locals := 30 } s9 m9 args9 below9 meth9 c9 H locs 0 0 Q9 (F0 m9 4 ls []) := by
    intro d
    induction d with
    | zero => exact fun _ _ _ _ _ hd => absurd hd (Nat.not_lt_zero _)
    | succ d ih_4 =>
      intro i x H locs ls hd iv_0 iv_1 hP hS hl
      refine lv_iload_n hx hb dX5_greatestCell_4 rfl (lv_at hl 2 rfl) ?_
      refine lv_aload_n hx hb dX5_greatestCell_5 rfl (lv_at hl 0 rfl) ?_
      refine kget X hP oT g_X5_37 (congrArg (fun z => some (Value.int z)) hw0) dX5_greatestCell_6 ?_
      first
        | refine kic_ge (tgt := 29) hx hb dX5_greatestCell_9 (by decide) (by with_reducible rfl) (by with_reducible rfl) (by omega) (by omega) (fun c_9 => ?_) (fun c_9 => ?_)
        | refine lv_icmp_ge (tgt := 29) hx hb dX5_greatestCell_9 (by decide) (fun c_9 => ?_) (fun c_9 => ?_)
      · skip
        refine lv_iload_n hx hb dX5_greatestCell_29 rfl (lv_at hl 1 rfl) ?_
        exact hret _ _ _ _ _ _ (⟨iv_1.trans (by rw [show i = w by omega]), rfl⟩) hP hS dX5_greatestCell_30
      · skip
        refine lv_iload_n hx hb dX5_greatestCell_12 rfl (lv_at hl 1 rfl) ?_
        refine lv_aload_n hx hb dX5_greatestCell_13 rfl (lv_at hl 0 rfl) ?_
        refine kget X hP oT g_X5_15 rfl dX5_greatestCell_14 ?_
        refine lv_iload_n hx hb dX5_greatestCell_17 rfl (lv_at hl 2 rfl) ?_
        refine kiald X hP aTc (by omega) dX5_greatestCell_18 ?_
        refine kmax X ⟨kWs_of 498 (by decide +kernel) rfl, kWs_of 499 (by decide +kernel) rfl, kWs_of 11 (by decide +kernel) rfl, kWs_of 500 rfl rfl⟩ ⟨Nat.le_of_ble_eq_true rfl, Nat.le_of_ble_eq_true rfl⟩ (Nat.le_of_ble_eq_true rfl) hl.1 ⟨Nat.zero_le _, Nat.zero_le _⟩ dX5_greatestCell_19 ?_
        refine kist hx hb dX5_greatestCell_22 rfl hl (by decide) (kp_3_1 rfl) (fun ls hl => ?_)
        first
          | refine kinc (q := 2) hx hb dX5_greatestCell_23 hl rfl (by decide) (kp_3_2 rfl) (fun ls hl => ?_)
          | refine kincG (q := 2) hx hb dX5_greatestCell_23 hl rfl (by decide) (kp_3_2 rfl) (fun ls hl => ?_)
        refine lv_goto (tgt := 4) hx hb dX5_greatestCell_26 (by decide) ?_
        exact ih_4 _ _ _ _ _ (by omega) (by omega) (by rw [iv_1]; rfl) hP hS (lv_sub hl [0,1,2] rfl)
  exact lp_4 _ 0 (nI 0) _ _ _ (Nat.lt_succ_self _) (Nat.zero_le _) (rfl) hP hS (lv_sub hl [0,1,2] rfl)
