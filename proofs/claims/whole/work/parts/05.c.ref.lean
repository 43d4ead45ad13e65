
def kpF (G : Nat → Nat → Int32) (c i : Nat) : Nat → Nat → Int32 := fun k f => if k = 2 ∧ c * 1201 ≤ f ∧ f < c * 1201 + i then G 1 (f - c * 1201) else G k f
def brF (G : Nat → Nat → Int32) (c i : Nat) : Nat → Nat → Int32 := fun k f => if k = 1 ∧ f < i then G 2 (c * 1201 + f) else G k f
def shF2 (G : Nat → Nat → Int32) (i : Nat) : Nat → Nat → Int32 := fun k f => if k = 2 ∧ f < i then G 2 (f + 1201) else G k f
theorem kpF_0 (G : Nat → Nat → Int32) (c : Nat) : kpF G c 0 = G := by
  funext k f
  unfold kpF
  rw [if_neg (by omega)]
theorem brF_0 (G : Nat → Nat → Int32) (c : Nat) : brF G c 0 = G := by
  funext k f
  unfold brF
  rw [if_neg (by omega)]
theorem shF2_0 (G : Nat → Nat → Int32) : shF2 G 0 = G := by
  funext k f
  unfold shF2
  rw [if_neg (by omega)]
theorem kpF_s (G : Nat → Nat → Int32) (c i : Nat) : gs (kpF G c i) 2 (c * 1201 + i) (kpF G c i 1 i) = kpF G c (i + 1) := by
  funext k f
  have e : kpF G c i 1 i = G 1 i := by unfold kpF; rw [if_neg (by omega)]
  rw [e]
  unfold gs kpF
  by_cases h : k = 2 ∧ f = c * 1201 + i
  · rw [if_pos h, if_pos (by omega), show f - c * 1201 = i by omega]
  · rw [if_neg h]
    by_cases h2 : k = 2 ∧ c * 1201 ≤ f ∧ f < c * 1201 + i
    · rw [if_pos h2, if_pos (by omega)]
    · rw [if_neg h2, if_neg (by omega)]
theorem brF_s (G : Nat → Nat → Int32) (c i : Nat) : gs (brF G c i) 1 i (brF G c i 2 (c * 1201 + i)) = brF G c (i + 1) := by
  funext k f
  have e : brF G c i 2 (c * 1201 + i) = G 2 (c * 1201 + i) := by unfold brF; rw [if_neg (by omega)]
  rw [e]
  unfold gs brF
  by_cases h : k = 1 ∧ f = i
  · rw [if_pos h, if_pos (by omega), h.2]
  · rw [if_neg h]
    by_cases h2 : k = 1 ∧ f < i
    · rw [if_pos h2, if_pos (by omega)]
    · rw [if_neg h2, if_neg (by omega)]
theorem shF2_s (G : Nat → Nat → Int32) (i : Nat) : gs (shF2 G i) 2 i (shF2 G i 2 (i + 1201)) = shF2 G (i + 1) := by
  funext k f
  have e : shF2 G i 2 (i + 1201) = G 2 (i + 1201) := by unfold shF2; rw [if_neg (by omega)]
  rw [e]
  unfold gs shF2
  by_cases h : k = 2 ∧ f = i
  · rw [if_pos h, if_pos (by omega), h.2]
  · rw [if_neg h]
    by_cases h2 : k = 2 ∧ f < i
    · rw [if_pos h2, if_pos (by omega)]
    · rw [if_neg h2, if_neg (by omega)]
/-- the history of the reference, with one more state -/
def recM (G : Nat → Nat → Int32) (L : Nat) : Nat → Nat → Int32 := gs (kpF (if L = 4 then gs (shF2 G 3603) 0 2 (nI 3) else G) (rotL L) 1201) 0 2 (nI (rotL L + 1))
def rw1 (G : Nat → Nat → Int32) (N : Nat → Int32) : Nat → Nat → Int32 := fun k f => if k = 1 then N f else G k f
theorem rw1_1 (G : Nat → Nat → Int32) (N : Nat → Int32) : rw1 G N 1 = N := by funext f; simp [rw1]
theorem rw1_o {G : Nat → Nat → Int32} {N : Nat → Int32} {k : Nat} (h : k ≠ 1) : rw1 G N k = G k := by funext f; simp [rw1, h]
theorem rw1_s (G : Nat → Nat → Int32) (N : Nat → Int32) (f : Nat) (x : Int32) : gs (rw1 G N) 1 f x = rw1 G (upd N f x) := by
  funext k g
  by_cases h : k = 1
  · subst h
    by_cases h2 : g = f <;> simp [gs, rw1, upd, h2]
  · simp [gs, rw1, h]
theorem rw1_id (G : Nat → Nat → Int32) : rw1 G (G 1) = G := by
  funext k f
  by_cases h : k = 1
  · subst h; simp [rw1]
  · simp [rw1, h]
set_option maxHeartbeats 4000000 in
set_option maxRecDepth 100000 in
theorem c_X7_keeps (l : Launch) {D : va_G} {τ : Nat → ClassId} {ad : Nat → Nat} (hI : kInj ad) {G : Nat → Nat → Int32} {q : Nat} (hq : q < 6) : kMv l yX7_keeps cX7_keeps 3 { frames := 0, cells := 0, slots := 0, locals := 0 } D τ ad [.ref (ad 0), .int (nI q)] G (fun G' => G' = kpF G q 1201) := by
  refine kMetV (own := RX7) (by decide) rfl (Nat.le_of_ble_eq_true rfl) ?_
  intro p9 e9 s9 m9 args9 below9 meth9 c9 Q9 X hx hb hP hS hret ls hl
  have hPs := hP
  have hl : lv_has ls 3 [(0, .ref (ad 0)), (1, .int (nI q))] := hl
  refine lv_iconst (v := nI 0) hx hb dX7_keeps_0 (by decide) ?_
  refine kist hx hb dX7_keeps_1 rfl hl (by decide) (kp_2_2 rfl) (fun ls hl => ?_)
  have lp_2 : ∀ (d : Nat) (i : Nat) (H : Heap) (locs : List Loc) (ls : Array Slot), (1201 - i) < d → (i ≤ 1201) → va_P D vwCl (kW τ ad (kpF G q i)) H → va_S (kAd ad) s9.heap H locs → lv_has ls 3 [(0, .ref (ad 0)), (1, .int (nI q)), (2, .int (nI i))] → W p9 l e9 { frames := 0, cells := 0, slots := 0, locals := 0 } s9 m9 args9 below9 meth9 c9 H locs 0 0 Q9 (F0 m9 2 ls []) := by
    intro d
    induction d with
    | zero => exact fun _ _ _ _ hd => absurd hd (Nat.not_lt_zero _)
    | succ d ih_2 =>
      intro i H locs ls hd iv_0 hP hS hl
      refine lv_iload_n hx hb dX7_keeps_2 rfl (lv_at hl 2 rfl) ?_
      refine lv_sipush (v := nI 1201) hx hb dX7_keeps_3 (by decide) ?_
      first
        | refine kic_ge (tgt := 33) hx hb dX7_keeps_6 (by decide) (by with_reducible rfl) (by with_reducible rfl) (by omega) (by omega) (fun c_6 => ?_) (fun c_6 => ?_)
        | refine lv_icmp_ge (tgt := 33) hx hb dX7_keeps_6 (by decide) (fun c_6 => ?_) (fun c_6 => ?_)
      · skip
        exact hret _ _ _ _ _ (by rw [show i = 1201 by omega]) hP hS dX7_keeps_33
      · skip
        refine lv_aload_n hx hb dX7_keeps_9 rfl (lv_at hl 0 rfl) ?_
        refine kget X hP oJ g_X7_13 rfl dX7_keeps_10 ?_
        refine lv_iload_n hx hb dX7_keeps_13 rfl (lv_at hl 1 rfl) ?_
        refine lv_sipush (v := nI 1201) hx hb dX7_keeps_14 (by decide) ?_
        first
          | refine kmul hx hb dX7_keeps_17 (by with_reducible rfl) (by with_reducible rfl) ?_
          | refine lv_imul hx hb dX7_keeps_17 ?_
        refine lv_iload_n hx hb dX7_keeps_18 rfl (lv_at hl 2 rfl) ?_
        first
          | refine kadd hx hb dX7_keeps_19 (by with_reducible rfl) (by with_reducible rfl) ?_
          | refine lv_iadd hx hb dX7_keeps_19 ?_
        refine lv_aload_n hx hb dX7_keeps_20 rfl (lv_at hl 0 rfl) ?_
        refine kget X hP oJ g_X7_7 rfl dX7_keeps_21 ?_
        refine lv_iload_n hx hb dX7_keeps_24 rfl (lv_at hl 2 rfl) ?_
        refine kiald X hP aJ1 (by omega) dX7_keeps_25 ?_
        refine kiast X hI hP hS aJ2 (by omega) dX7_keeps_26 (fun H locs hP hS => ?_)
        first
          | refine kinc (q := 2) hx hb dX7_keeps_27 hl rfl (by decide) (kp_3_2 rfl) (fun ls hl => ?_)
          | refine kincG (q := 2) hx hb dX7_keeps_27 hl rfl (by decide) (kp_3_2 rfl) (fun ls hl => ?_)
        refine lv_goto (tgt := 2) hx hb dX7_keeps_30 (by decide) ?_
        rw [kpF_s] at hP
        exact ih_2 _ _ _ _ (by omega) (by omega) hP hS (lv_sub hl [0,1,2] rfl)
  rw [← kpF_0 G q] at hP
  exact lp_2 _ 0 _ _ _ (Nat.lt_succ_self _) (Nat.zero_le _) hP hS (lv_sub hl [0,1,2] rfl)

set_option maxHeartbeats 4000000 in
set_option maxRecDepth 100000 in
theorem c_X7_brings (l : Launch) {D : va_G} {τ : Nat → ClassId} {ad : Nat → Nat} (hI : kInj ad) {G : Nat → Nat → Int32} {q : Nat} (hq : q < 6) : kMv l yX7_brings cX7_brings 3 { frames := 0, cells := 0, slots := 0, locals := 0 } D τ ad [.ref (ad 0), .int (nI q)] G (fun G' => G' = brF G q 1201) := by
  refine kMetV (own := RX7) (by decide) rfl (Nat.le_of_ble_eq_true rfl) ?_
  intro p9 e9 s9 m9 args9 below9 meth9 c9 Q9 X hx hb hP hS hret ls hl
  have hPs := hP
  have hl : lv_has ls 3 [(0, .ref (ad 0)), (1, .int (nI q))] := hl
  refine lv_iconst (v := nI 0) hx hb dX7_brings_0 (by decide) ?_
  refine kist hx hb dX7_brings_1 rfl hl (by decide) (kp_2_2 rfl) (fun ls hl => ?_)
  have lp_2 : ∀ (d : Nat) (i : Nat) (H : Heap) (locs : List Loc) (ls : Array Slot), (1201 - i) < d → (i ≤ 1201) → va_P D vwCl (kW τ ad (brF G q i)) H → va_S (kAd ad) s9.heap H locs → lv_has ls 3 [(0, .ref (ad 0)), (1, .int (nI q)), (2, .int (nI i))] → W p9 l e9 { frames := 0, cells := 0, slots := 0, locals := 0 } s9 m9 args9 below9 meth9 c9 H locs 0 0 Q9 (F0 m9 2 ls []) := by
    intro d
    induction d with
    | zero => exact fun _ _ _ _ hd => absurd hd (Nat.not_lt_zero _)
    | succ d ih_2 =>
      intro i H locs ls hd iv_0 hP hS hl
      refine lv_iload_n hx hb dX7_brings_2 rfl (lv_at hl 2 rfl) ?_
      refine lv_sipush (v := nI 1201) hx hb dX7_brings_3 (by decide) ?_
      first
        | refine kic_ge (tgt := 33) hx hb dX7_brings_6 (by decide) (by with_reducible rfl) (by with_reducible rfl) (by omega) (by omega) (fun c_6 => ?_) (fun c_6 => ?_)
        | refine lv_icmp_ge (tgt := 33) hx hb dX7_brings_6 (by decide) (fun c_6 => ?_) (fun c_6 => ?_)
      · skip
        exact hret _ _ _ _ _ (by rw [show i = 1201 by omega]) hP hS dX7_brings_33
      · skip
        refine lv_aload_n hx hb dX7_brings_9 rfl (lv_at hl 0 rfl) ?_
        refine kget X hP oJ g_X7_7 rfl dX7_brings_10 ?_
        refine lv_iload_n hx hb dX7_brings_13 rfl (lv_at hl 2 rfl) ?_
        refine lv_aload_n hx hb dX7_brings_14 rfl (lv_at hl 0 rfl) ?_
        refine kget X hP oJ g_X7_13 rfl dX7_brings_15 ?_
        refine lv_iload_n hx hb dX7_brings_18 rfl (lv_at hl 1 rfl) ?_
        refine lv_sipush (v := nI 1201) hx hb dX7_brings_19 (by decide) ?_
        first
          | refine kmul hx hb dX7_brings_22 (by with_reducible rfl) (by with_reducible rfl) ?_
          | refine lv_imul hx hb dX7_brings_22 ?_
        refine lv_iload_n hx hb dX7_brings_23 rfl (lv_at hl 2 rfl) ?_
        first
          | refine kadd hx hb dX7_brings_24 (by with_reducible rfl) (by with_reducible rfl) ?_
          | refine lv_iadd hx hb dX7_brings_24 ?_
        refine kiald X hP aJ2 (by omega) dX7_brings_25 ?_
        refine kiast X hI hP hS aJ1 (by omega) dX7_brings_26 (fun H locs hP hS => ?_)
        first
          | refine kinc (q := 2) hx hb dX7_brings_27 hl rfl (by decide) (kp_3_2 rfl) (fun ls hl => ?_)
          | refine kincG (q := 2) hx hb dX7_brings_27 hl rfl (by decide) (kp_3_2 rfl) (fun ls hl => ?_)
        refine lv_goto (tgt := 2) hx hb dX7_brings_30 (by decide) ?_
        rw [brF_s] at hP
        exact ih_2 _ _ _ _ (by omega) (by omega) hP hS (lv_sub hl [0,1,2] rfl)
  rw [← brF_0 G q] at hP
  exact lp_2 _ 0 _ _ _ (Nat.lt_succ_self _) (Nat.zero_le _) hP hS (lv_sub hl [0,1,2] rfl)

set_option maxHeartbeats 4000000 in
set_option maxRecDepth 100000 in
theorem c_X7_records (l : Launch) {D : va_G} {τ : Nat → ClassId} {ad : Nat → Nat} (hI : kInj ad) {G : Nat → Nat → Int32} {L : Nat} (hL : G 0 2 = nI L) (hL4 : L ≤ 4) : kMv l yX7_records cX7_records 2 { frames := 1, cells := 0, slots := 0, locals := 22 } D τ ad [.ref (ad 0)] G (fun G' => G' = recM G L) := by
  refine kMetV (own := RX7) (by decide) rfl (Nat.le_of_ble_eq_true rfl) ?_
  intro p9 e9 s9 m9 args9 below9 meth9 c9 Q9 X hx hb hP hS hret ls hl
  have hPs := hP
  have hl : lv_has ls 2 [(0, .ref (ad 0))] := hl
  refine lv_aload_n hx hb dX7_records_0 rfl (lv_at hl 0 rfl) ?_
  refine kget X hP oJ g_X7_36 (congrArg (fun z => some (Value.int z)) hL) dX7_records_1 ?_
  refine lv_iconst (v := nI 4) hx hb dX7_records_4 (by decide) ?_
  first
    | refine kic_ne (tgt := 49) hx hb dX7_records_5 (by decide) (by with_reducible rfl) (by with_reducible rfl) (by omega) (by omega) (fun c_5 => ?_) (fun c_5 => ?_)
    | refine lv_icmp_ne (tgt := 49) hx hb dX7_records_5 (by decide) (fun c_5 => ?_) (fun c_5 => ?_)
  · skip
    have hx1 : G 0 2 = nI (rotL L) := by rw [rotL, if_neg c_5]; exact hL
    refine lv_aload_n hx hb dX7_records_49 rfl (lv_at hl 0 rfl) ?_
    refine lv_aload_n hx hb dX7_records_50 rfl (lv_at hl 0 rfl) ?_
    refine kget X hP oJ g_X7_36 (congrArg (fun z => some (Value.int z)) hx1) dX7_records_51 ?_
    refine kcVv X hP hS (c_X7_keeps l hI (by have := rotL_lt hL4; omega)) oJ v_X7_40 ⟨Nat.le_of_ble_eq_true rfl, Nat.le_of_ble_eq_true rfl, rfl, rfl⟩ rfl rfl (Nat.le_of_ble_eq_true rfl) hl.1 ⟨Nat.zero_le _, Nat.zero_le _⟩ dX7_records_54 (fun G_54 H locs hR hP hS => ?_)
    subst hR
    refine lv_aload_n hx hb dX7_records_57 rfl (lv_at hl 0 rfl) ?_
    refine lv_dup hx hb dX7_records_58 rfl ?_
    refine kget X hP oJ g_X7_36 (congrArg (fun z => some (Value.int z)) (by simp [kpF, hx1] : _ = nI (rotL L))) dX7_records_59 ?_
    refine lv_iconst (v := nI 1) hx hb dX7_records_62 (by decide) ?_
    first
      | refine kadd hx hb dX7_records_63 (by with_reducible rfl) (by with_reducible rfl) ?_
      | refine lv_iadd hx hb dX7_records_63 ?_
    refine kput X hI hP hS oJ g_X7_36 (fun _ => rfl) rfl (fun _ => Nat.le_of_ble_eq_true rfl) rfl rfl dX7_records_64 (fun H locs hP hS => ?_)
    exact hret _ _ _ _ _ (by rw [recM, if_neg c_5]) hP hS dX7_records_67
  · skip
    refine lv_iconst (v := nI 0) hx hb dX7_records_8 (by decide) ?_
    refine kist hx hb dX7_records_9 rfl hl (by decide) (kp_1_1 rfl) (fun ls hl => ?_)
    have lp_10 : ∀ (d : Nat) (i : Nat) (H : Heap) (locs : List Loc) (ls : Array Slot), (3603 - i) < d → (i ≤ 3603) → va_P D vwCl (kW τ ad (shF2 G i)) H → va_S (kAd ad) s9.heap H locs → lv_has ls 2 [(0, .ref (ad 0)), (1, .int (nI i))] → W p9 l e9 { frames := 1, cells := 0, slots := 0, locals := 22 } s9 m9 args9 below9 meth9 c9 H locs 0 0 Q9 (F0 m9 10 ls []) := by
      intro d
      induction d with
      | zero => exact fun _ _ _ _ hd => absurd hd (Nat.not_lt_zero _)
      | succ d ih_10 =>
        intro i H locs ls hd iv_0 hP hS hl
        refine lv_iload_n hx hb dX7_records_10 rfl (lv_at hl 1 rfl) ?_
        refine lv_sipush (v := nI 3603) hx hb dX7_records_11 (by decide) ?_
        first
          | refine kic_ge (tgt := 39) hx hb dX7_records_14 (by decide) (by with_reducible rfl) (by with_reducible rfl) (by omega) (by omega) (fun c_14 => ?_) (fun c_14 => ?_)
          | refine lv_icmp_ge (tgt := 39) hx hb dX7_records_14 (by decide) (fun c_14 => ?_) (fun c_14 => ?_)
        · skip
          refine lv_aload_n hx hb dX7_records_39 rfl (lv_at hl 0 rfl) ?_
          refine lv_dup hx hb dX7_records_40 rfl ?_
          refine kget X hP oJ g_X7_36 (congrArg (fun z => some (Value.int z)) (show shF2 G i 0 2 = nI L from by unfold shF2; rw [if_neg (by omega)]; exact hL)) dX7_records_41 ?_
          refine lv_iconst (v := nI 1) hx hb dX7_records_44 (by decide) ?_
          first
            | refine ksub hx hb dX7_records_45 (by with_reducible rfl) (by with_reducible rfl) (by omega) ?_
            | refine lv_isub hx hb dX7_records_45 ?_
          refine kput X hI hP hS oJ g_X7_36 (fun _ => rfl) rfl (fun _ => Nat.le_of_ble_eq_true rfl) rfl rfl dX7_records_46 (fun H locs hP hS => ?_)
          have hx1 : gs (shF2 G i) 0 2 (nI (L - 1)) 0 2 = nI (rotL L) := by rw [rotL, if_pos c_5]; simp [gs, c_5]
          refine lv_aload_n hx hb dX7_records_49 rfl (lv_at hl 0 rfl) ?_
          refine lv_aload_n hx hb dX7_records_50 rfl (lv_at hl 0 rfl) ?_
          refine kget X hP oJ g_X7_36 (congrArg (fun z => some (Value.int z)) hx1) dX7_records_51 ?_
          refine kcVv X hP hS (c_X7_keeps l hI (by have := rotL_lt hL4; omega)) oJ v_X7_40 ⟨Nat.le_of_ble_eq_true rfl, Nat.le_of_ble_eq_true rfl, rfl, rfl⟩ rfl rfl (Nat.le_of_ble_eq_true rfl) hl.1 ⟨Nat.zero_le _, Nat.zero_le _⟩ dX7_records_54 (fun G_54 H locs hR hP hS => ?_)
          subst hR
          refine lv_aload_n hx hb dX7_records_57 rfl (lv_at hl 0 rfl) ?_
          refine lv_dup hx hb dX7_records_58 rfl ?_
          refine kget X hP oJ g_X7_36 (congrArg (fun z => some (Value.int z)) (by simp [kpF, hx1] : _ = nI (rotL L))) dX7_records_59 ?_
          refine lv_iconst (v := nI 1) hx hb dX7_records_62 (by decide) ?_
          first
            | refine kadd hx hb dX7_records_63 (by with_reducible rfl) (by with_reducible rfl) ?_
            | refine lv_iadd hx hb dX7_records_63 ?_
          refine kput X hI hP hS oJ g_X7_36 (fun _ => rfl) rfl (fun _ => Nat.le_of_ble_eq_true rfl) rfl rfl dX7_records_64 (fun H locs hP hS => ?_)
          exact hret _ _ _ _ _ (by rw [recM, if_pos c_5, show i = 3603 by omega, show L - 1 = 3 by omega]) hP hS dX7_records_67
        · skip
          refine lv_aload_n hx hb dX7_records_17 rfl (lv_at hl 0 rfl) ?_
          refine kget X hP oJ g_X7_13 rfl dX7_records_18 ?_
          refine lv_iload_n hx hb dX7_records_21 rfl (lv_at hl 1 rfl) ?_
          refine lv_aload_n hx hb dX7_records_22 rfl (lv_at hl 0 rfl) ?_
          refine kget X hP oJ g_X7_13 rfl dX7_records_23 ?_
          refine lv_iload_n hx hb dX7_records_26 rfl (lv_at hl 1 rfl) ?_
          refine lv_sipush (v := nI 1201) hx hb dX7_records_27 (by decide) ?_
          first
            | refine kadd hx hb dX7_records_30 (by with_reducible rfl) (by with_reducible rfl) ?_
            | refine lv_iadd hx hb dX7_records_30 ?_
          refine kiald X hP aJ2 (by omega) dX7_records_31 ?_
          refine kiast X hI hP hS aJ2 (by omega) dX7_records_32 (fun H locs hP hS => ?_)
          first
            | refine kinc (q := 1) hx hb dX7_records_33 hl rfl (by decide) (kp_2_1 rfl) (fun ls hl => ?_)
            | refine kincG (q := 1) hx hb dX7_records_33 hl rfl (by decide) (kp_2_1 rfl) (fun ls hl => ?_)
          refine lv_goto (tgt := 10) hx hb dX7_records_36 (by decide) ?_
          rw [shF2_s] at hP
          exact ih_10 _ _ _ _ (by omega) (by omega) hP hS (lv_sub hl [0,1] rfl)
    rw [← shF2_0 G] at hP
    exact lp_10 _ 0 _ _ _ (Nat.lt_succ_self _) (Nat.zero_le _) hP hS (lv_sub hl [0,1] rfl)

set_option maxHeartbeats 4000000 in
set_option maxRecDepth 100000 in
theorem c_X7_writes (l : Launch) {D : va_G} {τ : Nat → ClassId} {ad : Nat → Nat} (hI : kInj ad) {G : Nat → Nat → Int32} {r q : Nat} {x : Int32} (hr : r < 40) (hq : q < 12) : kMv l yX7_writes cX7_writes 4 { frames := 1, cells := 0, slots := 0, locals := 23 } D τ ad [.ref (ad 0), .int (nI r), .int (nI q), .int x] G (fun G' => G' = gs (gs G 1 (9 + 20 * r + 4) (G 1 (9 + 20 * r + 4) ||| bt q)) 1 (9 + 20 * r + (8 + q)) x) := by
  refine kMetV (own := RX7) (by decide) rfl (Nat.le_of_ble_eq_true rfl) ?_
  intro p9 e9 s9 m9 args9 below9 meth9 c9 Q9 X hx hb hP hS hret ls hl
  have hPs := hP
  have hl : lv_has ls 4 [(0, .ref (ad 0)), (1, .int (nI r)), (2, .int (nI q)), (3, .int x)] := hl
  refine lv_aload_n hx hb dX7_writes_0 rfl (lv_at hl 0 rfl) ?_
  refine lv_iload_n hx hb dX7_writes_1 rfl (lv_at hl 1 rfl) ?_
  refine lv_iconst (v := nI 4) hx hb dX7_writes_2 (by decide) ?_
  refine lv_aload_n hx hb dX7_writes_3 rfl (lv_at hl 0 rfl) ?_
  refine lv_iload_n hx hb dX7_writes_4 rfl (lv_at hl 1 rfl) ?_
  refine lv_iconst (v := nI 4) hx hb dX7_writes_5 (by decide) ?_
  refine kcV X hP hS (c_X7_ofR l hI (by first | assumption | omega)) oJ v_X7_32 ⟨Nat.le_of_ble_eq_true rfl, Nat.le_of_ble_eq_true rfl, rfl, rfl⟩ rfl rfl (Nat.le_of_ble_eq_true rfl) hl.1 ⟨Nat.zero_le _, Nat.zero_le _⟩ dX7_writes_6 (fun r_6 G_6 H locs hR hP hS => ?_)
  obtain ⟨rfl, hG_6⟩ := hR
  rw [hG_6] at hP
  clear hG_6
  refine lv_iconst (v := nI 1) hx hb dX7_writes_9 (by decide) ?_
  refine lv_iload_n hx hb dX7_writes_10 rfl (lv_at hl 2 rfl) ?_
  refine lv_ishl hx hb dX7_writes_11 ?_
  refine lv_ior hx hb dX7_writes_12 ?_
  refine kcVv X hP hS (c_X7_setsR l hI (by first | assumption | omega)) oJ v_X7_88 ⟨Nat.le_of_ble_eq_true rfl, Nat.le_of_ble_eq_true rfl, rfl, rfl⟩ rfl rfl (Nat.le_of_ble_eq_true rfl) hl.1 ⟨Nat.zero_le _, Nat.zero_le _⟩ dX7_writes_13 (fun G_13 H locs hR hP hS => ?_)
  subst hR
  refine lv_aload_n hx hb dX7_writes_16 rfl (lv_at hl 0 rfl) ?_
  refine lv_iload_n hx hb dX7_writes_17 rfl (lv_at hl 1 rfl) ?_
  refine lv_bipush (v := nI 8) hx hb dX7_writes_18 (by decide) ?_
  refine lv_iload_n hx hb dX7_writes_20 rfl (lv_at hl 2 rfl) ?_
  first
    | refine kadd hx hb dX7_writes_21 (by with_reducible rfl) (by with_reducible rfl) ?_
    | refine lv_iadd hx hb dX7_writes_21 ?_
  refine lv_iload_n hx hb dX7_writes_22 rfl (lv_at hl 3 rfl) ?_
  refine kcVv X hP hS (c_X7_setsR l hI (by first | assumption | omega)) oJ v_X7_88 ⟨Nat.le_of_ble_eq_true rfl, Nat.le_of_ble_eq_true rfl, rfl, rfl⟩ rfl rfl (Nat.le_of_ble_eq_true rfl) hl.1 ⟨Nat.zero_le _, Nat.zero_le _⟩ dX7_writes_23 (fun G_23 H locs hR hP hS => ?_)
  subst hR
  exact hret _ _ _ _ _ (rfl) hP hS dX7_writes_26
