/-- which places behind the newest stay -/
def rf (w : Int32) : Nat → Nat := fun t => if 1 ≤ t ∧ hw w t then 1 else 0
theorem rf_le (w : Int32) (i : Nat) : cn (rf w) i ≤ i - 1 := by
  induction i with
  | zero => exact Nat.le_refl _
  | succ i ih =>
    rw [cn]
    have h : rf w i ≤ 1 := by unfold rf; split <;> omega
    rcases Nat.eq_zero_or_pos i with rfl | hp
    · have h0 : rf w 0 = 0 := by unfold rf; rw [if_neg (fun z => absurd z.1 (by omega))]
      rw [h0]; exact Nat.le_refl _
    · omega
theorem rf_z {w : Int32} {x i : Nat} (h : x = 1 + cn (rf w) i) (hz : ¬ hw w i) : x = 1 + cn (rf w) (i + 1) := by
  rw [cn, rf, if_neg (fun z => hz z.2)]; exact h
theorem rf_p {w : Int32} {x i : Nat} (h : x = 1 + cn (rf w) i) (h1 : 1 ≤ i) (hz : hw w i) : x + 1 = 1 + cn (rf w) (i + 1) := by
  rw [cn, rf, if_pos ⟨h1, hz⟩, h]; rfl
def RT (G G' : Nat → Nat → Int32) (j c P : Nat) (w : Int32) : Prop := G' (cB j c) 2 = nI (1 + cn (rf w) P) ∧ G' (cV j c) 0 = G (cV j c) 0 ∧ G' (cM j c) 0 = G (cM j c) 0 ∧ ∀ p, 1 ≤ p → p < P → hw w p → G' (cV j c) (1 + cn (rf w) p) = G (cV j c) p ∧ G' (cM j c) (1 + cn (rf w) p) = G (cM j c) p
theorem rf_keep {w : Int32} {i : Nat} {Z : Nat → Prop} (h : ∀ p, 1 ≤ p → p < i → hw w p → Z p) (hz : ¬ hw w i) : ∀ p, 1 ≤ p → p < i + 1 → hw w p → Z p := fun p h1 h2 h3 => by
  rcases Nat.lt_or_ge p i with q | q
  · exact h p h1 q h3
  · rw [show p = i by omega] at h3; exact absurd h3 hz
theorem rf_lt {w : Int32} {p i : Nat} (h1 : 1 ≤ p) (h : p < i) (hz : hw w p) : cn (rf w) p < cn (rf w) i := by
  have h2 : cn (rf w) (p + 1) ≤ cn (rf w) i := cn_mono h
  rw [cn, rf, if_pos ⟨h1, hz⟩] at h2
  omega
theorem rf_step {w : Int32} {x i kV kM : Nat} {G G1 : Nat → Nat → Int32} (h : x = 1 + cn (rf w) i) (h3 : ∀ p, x ≤ p → G1 kV p = G kV p ∧ G1 kM p = G kM p) (h5 : ∀ p, 1 ≤ p → p < i → hw w p → G1 kV (1 + cn (rf w) p) = G kV p ∧ G1 kM (1 + cn (rf w) p) = G kM p) (h1 : 1 ≤ i) (hx : x ≤ i) (z : kV ≠ kM) : ∀ p, 1 ≤ p → p < i + 1 → hw w p → gs (gs G1 kV x (G1 kV i)) kM x (gs G1 kV x (G1 kV i) kM i) kV (1 + cn (rf w) p) = G kV p ∧ gs (gs G1 kV x (G1 kV i)) kM x (gs G1 kV x (G1 kV i) kM i) kM (1 + cn (rf w) p) = G kM p := by
  intro p hp1 hp2 hp3
  rcases Nat.lt_or_ge p i with q | q
  · have q1 := rf_lt hp1 q hp3
    have q2 := h5 p hp1 q hp3
    have e : 1 + cn (rf w) p ≠ x := by omega
    exact ⟨by simpa [gs, z, e] using q2.1, by simpa [gs, z.symm, e] using q2.2⟩
  · have e : p = i := by omega
    subst e
    have q := h3 p hx
    rw [← h]
    exact ⟨by simpa [gs, z] using q.1, by simpa [gs, z.symm] using q.2⟩
set_option maxHeartbeats 4000000 in
set_option maxRecDepth 100000 in
theorem c_X0_copyFrom (l : Launch) {D : va_G} {τ : Nat → ClassId} {ad : Nat → Nat} (hI : kInj ad) {G : Nat → Nat → Int32} {j c j2 c2 : Nat} (hj : j < 7) (hc : c < 12) (hj2 : j2 < 7) (hc2 : c2 < 12) : kMv l yX0_copyFrom cX0_copyFrom 2 { frames := 1, cells := 0, slots := 0, locals := 40 } D τ ad [.ref (ad (cB j c)), .ref (ad (cB j2 c2))] G (fun G' => (∀ k, k ≠ cB j c → k ≠ cV j c → k ≠ cM j c → G' k = G k) ∧ (∀ p, p < 10 → G' (cV j c) p = G (cV j2 c2) p ∧ G' (cM j c) p = G (cM j2 c2) p) ∧ G' (cB j c) 2 = G (cB j2 c2) 2) := by
  refine kMetV (own := RX0) (by decide) rfl (Nat.le_of_ble_eq_true rfl) ?_
  intro p9 e9 s9 m9 args9 below9 meth9 c9 Q9 X hx hb hP hS hret ls hl
  have hPs := hP
  have hl : lv_has ls 2 [(0, .ref (ad (cB j c))), (1, .ref (ad (cB j2 c2)))] := hl
  refine lv_aload_n hx hb dX0_copyFrom_0 rfl (lv_at hl 1 rfl) ?_
  refine kget X hP (oC (by first | assumption | omega) (by first | assumption | omega)) g_X0_9 rfl dX0_copyFrom_1 ?_
  refine lv_iconst (v := nI 0) hx hb dX0_copyFrom_4 (by decide) ?_
  refine lv_aload_n hx hb dX0_copyFrom_5 rfl (lv_at hl 0 rfl) ?_
  refine kget X hP (oC (by first | assumption | omega) (by first | assumption | omega)) g_X0_9 rfl dX0_copyFrom_6 ?_
  refine lv_iconst (v := nI 0) hx hb dX0_copyFrom_9 (by decide) ?_
  refine lv_bipush (v := nI 10) hx hb dX0_copyFrom_10 (by decide) ?_
  refine kcopy X hI hP hS (aV hj2 hc2) (aV hj hc) ⟨kWs_of 392 (by decide +kernel) rfl, kWs_of 394 (by decide +kernel) rfl, kWs_of 393 (by decide +kernel) rfl, kWs_of 8 (by decide +kernel) rfl⟩ (by omega) (by omega) ⟨Nat.le_of_ble_eq_true rfl, Nat.le_of_ble_eq_true rfl⟩ (Nat.le_of_ble_eq_true rfl) hl.1 dX0_copyFrom_12 (fun H locs hP hS => ?_)
  refine lv_aload_n hx hb dX0_copyFrom_15 rfl (lv_at hl 1 rfl) ?_
  refine kget X hP (oC (by first | assumption | omega) (by first | assumption | omega)) g_X0_15 rfl dX0_copyFrom_16 ?_
  refine lv_iconst (v := nI 0) hx hb dX0_copyFrom_19 (by decide) ?_
  refine lv_aload_n hx hb dX0_copyFrom_20 rfl (lv_at hl 0 rfl) ?_
  refine kget X hP (oC (by first | assumption | omega) (by first | assumption | omega)) g_X0_15 rfl dX0_copyFrom_21 ?_
  refine lv_iconst (v := nI 0) hx hb dX0_copyFrom_24 (by decide) ?_
  refine lv_bipush (v := nI 10) hx hb dX0_copyFrom_25 (by decide) ?_
  refine kcopy X hI hP hS (aM hj2 hc2) (aM hj hc) ⟨kWs_of 392 (by decide +kernel) rfl, kWs_of 394 (by decide +kernel) rfl, kWs_of 393 (by decide +kernel) rfl, kWs_of 8 (by decide +kernel) rfl⟩ (by omega) (by omega) ⟨Nat.le_of_ble_eq_true rfl, Nat.le_of_ble_eq_true rfl⟩ (Nat.le_of_ble_eq_true rfl) hl.1 dX0_copyFrom_27 (fun H locs hP hS => ?_)
  refine lv_aload_n hx hb dX0_copyFrom_30 rfl (lv_at hl 0 rfl) ?_
  refine lv_aload_n hx hb dX0_copyFrom_31 rfl (lv_at hl 1 rfl) ?_
  refine kget X hP (oC (by first | assumption | omega) (by first | assumption | omega)) g_X0_18 rfl dX0_copyFrom_32 ?_
  refine kput X hI hP hS (oC (by first | assumption | omega) (by first | assumption | omega)) g_X0_18 (fun _ => rfl) rfl (fun _ => Nat.le_of_ble_eq_true rfl) rfl rfl dX0_copyFrom_35 (fun H locs hP hS => ?_)
  exact hret _ _ _ _ _ (by
      have z0 : cM j2 c2 ≠ cV j c := by unfold cM cV; omega
      have z1 : cB j2 c2 ≠ cM j c := by unfold cB cM; omega
      have z2 : cB j2 c2 ≠ cV j c := by unfold cB cV; omega
      have z3 : cV j c ≠ cB j c := by unfold cV cB; omega
      have z4 : cM j c ≠ cB j c := by unfold cM cB; omega
      have z5 : cV j c ≠ cM j c := by unfold cV cM; omega
      refine ⟨fun k h1 h2 h3 => ?_, fun p hp => ⟨?_, ?_⟩, ?_⟩
      · funext f; simp [gs, gc, h1, h2, h3]
      · simp [gs, gc, cpy, z3, z5, hp]
      · simp [gs, gc, cpy, z0, z4, hp]
      · simp [gs, gc, z1, z2]) hP hS dX0_copyFrom_38

set_option maxHeartbeats 4000000 in
set_option maxRecDepth 100000 in
theorem c_X0_push (l : Launch) {D : va_G} {τ : Nat → ClassId} {ad : Nat → Nat} (hI : kInj ad) {G : Nat → Nat → Int32} {j c P : Nat} {x y : Int32} (hj : j < 7) (hc : c < 12) (hpl : G (cB j c) 2 = nI P) (hp9 : P ≤ 9) : kMv l yX0_push cX0_push 3 { frames := 1, cells := 0, slots := 0, locals := 40 } D τ ad [.ref (ad (cB j c)), .int x, .int y] G (fun G' => (∀ k, k ≠ cB j c → k ≠ cV j c → k ≠ cM j c → G' k = G k) ∧ G' (cB j c) 2 = nI (P + 1) ∧ G' (cV j c) 0 = x ∧ G' (cM j c) 0 = y ∧ ∀ p, p < P → G' (cV j c) (p + 1) = G (cV j c) p ∧ G' (cM j c) (p + 1) = G (cM j c) p) := by
  refine kMetV (own := RX0) (by decide) rfl (Nat.le_of_ble_eq_true rfl) ?_
  intro p9 e9 s9 m9 args9 below9 meth9 c9 Q9 X hx hb hP hS hret ls hl
  have hPs := hP
  have hl : lv_has ls 3 [(0, .ref (ad (cB j c))), (1, .int x), (2, .int y)] := hl
  have z0 : cB j c ≠ cV j c := by unfold cB cV; omega
  have z1 : cB j c ≠ cM j c := by unfold cB cM; omega
  have z2 : cV j c ≠ cM j c := by unfold cV cM; omega
  refine lv_aload_n hx hb dX0_push_0 rfl (lv_at hl 0 rfl) ?_
  refine kget X hP (oC (by first | assumption | omega) (by first | assumption | omega)) g_X0_18 (congrArg (fun z => some (Value.int z)) hpl) dX0_push_1 ?_
  refine lv_bipush (v := nI 10) hx hb dX0_push_4 (by decide) ?_
  first
    | refine kic_ge (tgt := 19) hx hb dX0_push_6 (by decide) (by with_reducible rfl) (by with_reducible rfl) (by omega) (by omega) (fun c_6 => ?_) (fun c_6 => ?_)
    | refine lv_icmp_ge (tgt := 19) hx hb dX0_push_6 (by decide) (fun c_6 => ?_) (fun c_6 => ?_)
  · skip
    exact absurd c_6 (by omega)
  · skip
    refine lv_aload_n hx hb dX0_push_9 rfl (lv_at hl 0 rfl) ?_
    refine lv_dup hx hb dX0_push_10 rfl ?_
    refine kget X hP (oC (by first | assumption | omega) (by first | assumption | omega)) g_X0_18 (congrArg (fun z => some (Value.int z)) hpl) dX0_push_11 ?_
    refine lv_iconst (v := nI 1) hx hb dX0_push_14 (by decide) ?_
    first
      | refine kadd hx hb dX0_push_15 (by with_reducible rfl) (by with_reducible rfl) ?_
      | refine lv_iadd hx hb dX0_push_15 ?_
    refine kput X hI hP hS (oC (by first | assumption | omega) (by first | assumption | omega)) g_X0_18 (fun _ => rfl) rfl (fun _ => Nat.le_of_ble_eq_true rfl) rfl rfl dX0_push_16 (fun H locs hP hS => ?_)
    refine lv_aload_n hx hb dX0_push_19 rfl (lv_at hl 0 rfl) ?_
    refine kget X hP (oC (by first | assumption | omega) (by first | assumption | omega)) g_X0_9 rfl dX0_push_20 ?_
    refine lv_iconst (v := nI 0) hx hb dX0_push_23 (by decide) ?_
    refine lv_aload_n hx hb dX0_push_24 rfl (lv_at hl 0 rfl) ?_
    refine kget X hP (oC (by first | assumption | omega) (by first | assumption | omega)) g_X0_9 rfl dX0_push_25 ?_
    refine lv_iconst (v := nI 1) hx hb dX0_push_28 (by decide) ?_
    refine lv_aload_n hx hb dX0_push_29 rfl (lv_at hl 0 rfl) ?_
    refine kget X hP (oC (by first | assumption | omega) (by first | assumption | omega)) g_X0_18 (congrArg (fun z => some (Value.int z)) (show gs G (cB j c) 2 (nI (P + 1)) (cB j c) 2 = nI (P + 1) from by simp [gs])) dX0_push_30 ?_
    refine lv_iconst (v := nI 1) hx hb dX0_push_33 (by decide) ?_
    first
      | refine ksub hx hb dX0_push_34 (by with_reducible rfl) (by with_reducible rfl) (by omega) ?_
      | refine lv_isub hx hb dX0_push_34 ?_
    refine kcopy X hI hP hS (aV hj hc) (aV hj hc) ⟨kWs_of 392 (by decide +kernel) rfl, kWs_of 394 (by decide +kernel) rfl, kWs_of 393 (by decide +kernel) rfl, kWs_of 8 (by decide +kernel) rfl⟩ (by omega) (by omega) ⟨Nat.le_of_ble_eq_true rfl, Nat.le_of_ble_eq_true rfl⟩ (Nat.le_of_ble_eq_true rfl) hl.1 dX0_push_35 (fun H locs hP hS => ?_)
    refine lv_aload_n hx hb dX0_push_38 rfl (lv_at hl 0 rfl) ?_
    refine kget X hP (oC (by first | assumption | omega) (by first | assumption | omega)) g_X0_15 rfl dX0_push_39 ?_
    refine lv_iconst (v := nI 0) hx hb dX0_push_42 (by decide) ?_
    refine lv_aload_n hx hb dX0_push_43 rfl (lv_at hl 0 rfl) ?_
    refine kget X hP (oC (by first | assumption | omega) (by first | assumption | omega)) g_X0_15 rfl dX0_push_44 ?_
    refine lv_iconst (v := nI 1) hx hb dX0_push_47 (by decide) ?_
    refine lv_aload_n hx hb dX0_push_48 rfl (lv_at hl 0 rfl) ?_
    refine kget X hP (oC (by first | assumption | omega) (by first | assumption | omega)) g_X0_18 (congrArg (fun z => some (Value.int z)) (show gc (gs G (cB j c) 2 (nI (P + 1))) (cV j c) (cV j c) 0 1 (P + 1 - 1) (cB j c) 2 = nI (P + 1) from by simp [gs, gc, z0])) dX0_push_49 ?_
    refine lv_iconst (v := nI 1) hx hb dX0_push_52 (by decide) ?_
    first
      | refine ksub hx hb dX0_push_53 (by with_reducible rfl) (by with_reducible rfl) (by omega) ?_
      | refine lv_isub hx hb dX0_push_53 ?_
    refine kcopy X hI hP hS (aM hj hc) (aM hj hc) ⟨kWs_of 392 (by decide +kernel) rfl, kWs_of 394 (by decide +kernel) rfl, kWs_of 393 (by decide +kernel) rfl, kWs_of 8 (by decide +kernel) rfl⟩ (by omega) (by omega) ⟨Nat.le_of_ble_eq_true rfl, Nat.le_of_ble_eq_true rfl⟩ (Nat.le_of_ble_eq_true rfl) hl.1 dX0_push_54 (fun H locs hP hS => ?_)
    refine lv_aload_n hx hb dX0_push_57 rfl (lv_at hl 0 rfl) ?_
    refine kget X hP (oC (by first | assumption | omega) (by first | assumption | omega)) g_X0_9 rfl dX0_push_58 ?_
    refine lv_iconst (v := nI 0) hx hb dX0_push_61 (by decide) ?_
    refine lv_iload_n hx hb dX0_push_62 rfl (lv_at hl 1 rfl) ?_
    refine kiast X hI hP hS (aV hj hc) (by omega) dX0_push_63 (fun H locs hP hS => ?_)
    refine lv_aload_n hx hb dX0_push_64 rfl (lv_at hl 0 rfl) ?_
    refine kget X hP (oC (by first | assumption | omega) (by first | assumption | omega)) g_X0_15 rfl dX0_push_65 ?_
    refine lv_iconst (v := nI 0) hx hb dX0_push_68 (by decide) ?_
    refine lv_iload_n hx hb dX0_push_69 rfl (lv_at hl 2 rfl) ?_
    refine kiast X hI hP hS (aM hj hc) (by omega) dX0_push_70 (fun H locs hP hS => ?_)
    exact hret _ _ _ _ _ (by
        refine ⟨fun k h1 h2 h3 => ?_, ?_, ?_, ?_, fun p hp => ⟨?_, ?_⟩⟩
        · funext f; simp [gs, gc, h1, h2, h3]
        · simp [gs, gc, z0, z1]
        · simp [gs, gc, z2]
        · simp [gs]
        · simp [gs, gc, cpy, z2, z0.symm, hp]; omega
        · simp [gs, gc, cpy, z2.symm, z1.symm, hp]; omega) hP hS dX0_push_71

set_option maxHeartbeats 4000000 in
set_option maxRecDepth 100000 in
theorem c_X0_retainOld (l : Launch) {D : va_G} {τ : Nat → ClassId} {ad : Nat → Nat} (hI : kInj ad) {G : Nat → Nat → Int32} {j c P : Nat} {w : Int32} (hj : j < 7) (hc : c < 12) (hpl : G (cB j c) 2 = nI P) (hp1 : 1 ≤ P) (hp10 : P ≤ 10) : kM l yX0_retainOld cX0_retainOld 4 (some .int) { frames := 0, cells := 0, slots := 0, locals := 0 } D τ ad [.ref (ad (cB j c)), .int w] G (fun v G' => v = nI (P - (1 + cn (rf w) P)) ∧ (∀ k, k ≠ cB j c → k ≠ cV j c → k ≠ cM j c → G' k = G k) ∧ RT G G' j c P w) := by
  refine kMet (own := RX0) (by decide) rfl (Nat.le_of_ble_eq_true rfl) ?_
  intro p9 e9 s9 m9 args9 below9 meth9 c9 Q9 X hx hb hP hS hret ls hl
  have hPs := hP
  have hl : lv_has ls 4 [(0, .ref (ad (cB j c))), (1, .int w)] := hl
  have z0 : cB j c ≠ cV j c := by unfold cB cV; omega
  have z1 : cB j c ≠ cM j c := by unfold cB cM; omega
  have z2 : cV j c ≠ cM j c := by unfold cV cM; omega
  refine lv_iconst (v := nI 1) hx hb dX0_retainOld_0 (by decide) ?_
  refine kist hx hb dX0_retainOld_1 rfl hl (by decide) (kp_2_2 rfl) (fun ls hl => ?_)
  refine lv_iconst (v := nI 1) hx hb dX0_retainOld_2 (by decide) ?_
  refine kist hx hb dX0_retainOld_3 rfl hl (by decide) (kp_3_3 rfl) (fun ls hl => ?_)
  have lp_4 : ∀ (d : Nat) (x i : Nat) (G1 : Nat → Nat → Int32) (H : Heap) (locs : List Loc) (ls : Array Slot), (P - i) < d → (1 ≤ i ∧ i ≤ P) → (x = 1 + cn (rf w) i) → (∀ k, k ≠ cV j c → k ≠ cM j c → G1 k = G k) → (∀ p, x ≤ p → G1 (cV j c) p = G (cV j c) p ∧ G1 (cM j c) p = G (cM j c) p) → (G1 (cV j c) 0 = G (cV j c) 0 ∧ G1 (cM j c) 0 = G (cM j c) 0) → (∀ p, 1 ≤ p → p < i → hw w p → G1 (cV j c) (1 + cn (rf w) p) = G (cV j c) p ∧ G1 (cM j c) (1 + cn (rf w) p) = G (cM j c) p) → va_P D vwCl (kW τ ad G1) H → va_S (kAd ad) s9.heap H locs → lv_has ls 4 [(0, .ref (ad (cB j c))), (1, .int w), (2, .int (nI x)), (3, .int (nI i))] → W p9 l e9 { frames := 0, cells := 0, slots := 0, locals := 0 } s9 m9 args9 below9 meth9 c9 H locs 0 0 Q9 (F0 m9 4 ls []) := by
    intro d
    induction d with
    | zero => exact fun _ _ _ _ _ _ hd => absurd hd (Nat.not_lt_zero _)
    | succ d ih_4 =>
      intro x i G1 H locs ls hd iv_0 iv_1 iv_2 iv_3 iv_4 iv_5 hP hS hl
      refine lv_iload_n hx hb dX0_retainOld_4 rfl (lv_at hl 3 rfl) ?_
      refine lv_aload_n hx hb dX0_retainOld_5 rfl (lv_at hl 0 rfl) ?_
      refine kget X hP (oC (by first | assumption | omega) (by first | assumption | omega)) g_X0_18 (congrArg (fun z => some (Value.int z)) (show G1 (cB j c) 2 = nI P from by rw [iv_2 _ z0 z1]; exact hpl)) dX0_retainOld_6 ?_
      first
        | refine kic_ge (tgt := 53) hx hb dX0_retainOld_9 (by decide) (by with_reducible rfl) (by with_reducible rfl) (by omega) (by omega) (fun c_9 => ?_) (fun c_9 => ?_)
        | refine lv_icmp_ge (tgt := 53) hx hb dX0_retainOld_9 (by decide) (fun c_9 => ?_) (fun c_9 => ?_)
      · skip
        refine lv_aload_n hx hb dX0_retainOld_53 rfl (lv_at hl 0 rfl) ?_
        refine kget X hP (oC (by first | assumption | omega) (by first | assumption | omega)) g_X0_18 (congrArg (fun z => some (Value.int z)) (show G1 (cB j c) 2 = nI P from by rw [iv_2 _ z0 z1]; exact hpl)) dX0_retainOld_54 ?_
        refine lv_iload_n hx hb dX0_retainOld_57 rfl (lv_at hl 2 rfl) ?_
        refine ksub hx hb dX0_retainOld_58 (by with_reducible rfl) (by with_reducible rfl) (by have q := rf_le w i; omega) ?_
        refine kist hx hb dX0_retainOld_59 rfl hl (by decide) (kp_4_3 rfl) (fun ls hl => ?_)
        refine lv_aload_n hx hb dX0_retainOld_60 rfl (lv_at hl 0 rfl) ?_
        refine lv_iload_n hx hb dX0_retainOld_61 rfl (lv_at hl 2 rfl) ?_
        refine kput X hI hP hS (oC (by first | assumption | omega) (by first | assumption | omega)) g_X0_18 (fun _ => rfl) rfl (fun _ => Nat.le_of_ble_eq_true rfl) rfl rfl dX0_retainOld_62 (fun H locs hP hS => ?_)
        refine lv_iload_n hx hb dX0_retainOld_65 rfl (lv_at hl 3 rfl) ?_
        exact hret _ _ _ _ _ _ (by
            have ei : i = P := (by omega)
            rw [ei] at iv_1 iv_5
            refine ⟨by rw [iv_1], fun k h1 h2 h3 => ?_, ?_, ?_, ?_, fun p h1 h2 h3 => ?_⟩
            · rw [gs_other h1]; exact iv_2 k h2 h3
            · simp [gs, iv_1]
            · rw [gs_other z0.symm]; exact iv_4.1
            · rw [gs_other z1.symm]; exact iv_4.2
            · rw [gs_other z0.symm, gs_other z1.symm]; exact iv_5 p h1 h2 h3) hP hS dX0_retainOld_66
      · skip
        have hxi : cn (rf w) i ≤ i - 1 := rf_le w i
        refine lv_iload_n hx hb dX0_retainOld_12 rfl (lv_at hl 1 rfl) ?_
        refine lv_iload_n hx hb dX0_retainOld_13 rfl (lv_at hl 3 rfl) ?_
        refine lv_ishr hx hb dX0_retainOld_14 ?_
        refine lv_iconst (v := nI 1) hx hb dX0_retainOld_15 (by decide) ?_
        refine lv_iand hx hb dX0_retainOld_16 ?_
        first
          | refine kif_eq (tgt := 47) hx hb dX0_retainOld_17 (by decide) (fun c_17 => ?_) (fun c_17 => ?_)
          | refine lv_if_eq (tgt := 47) hx hb dX0_retainOld_17 (by decide) (fun c_17 => ?_) (fun c_17 => ?_)
        · skip
          first
            | refine kinc (q := 3) hx hb dX0_retainOld_47 hl rfl (by decide) (kp_4_3 rfl) (fun ls hl => ?_)
            | refine kincG (q := 3) hx hb dX0_retainOld_47 hl rfl (by decide) (kp_4_3 rfl) (fun ls hl => ?_)
          refine lv_goto (tgt := 4) hx hb dX0_retainOld_50 (by decide) ?_
          exact ih_4 _ _ _ _ _ _ (by omega) (by omega) (rf_z iv_1 (fun z => z c_17)) (iv_2) (iv_3) (iv_4) (rf_keep iv_5 (fun z => absurd c_17 z)) hP hS (lv_sub hl [0,1,2,3] rfl)
        · skip
          refine lv_aload_n hx hb dX0_retainOld_20 rfl (lv_at hl 0 rfl) ?_
          refine kget X hP (oC (by first | assumption | omega) (by first | assumption | omega)) g_X0_9 rfl dX0_retainOld_21 ?_
          refine lv_iload_n hx hb dX0_retainOld_24 rfl (lv_at hl 2 rfl) ?_
          refine lv_aload_n hx hb dX0_retainOld_25 rfl (lv_at hl 0 rfl) ?_
          refine kget X hP (oC (by first | assumption | omega) (by first | assumption | omega)) g_X0_9 rfl dX0_retainOld_26 ?_
          refine lv_iload_n hx hb dX0_retainOld_29 rfl (lv_at hl 3 rfl) ?_
          refine kiald X hP (aV hj hc) (by omega) dX0_retainOld_30 ?_
          refine kiast X hI hP hS (aV hj hc) (by omega) dX0_retainOld_31 (fun H locs hP hS => ?_)
          refine lv_aload_n hx hb dX0_retainOld_32 rfl (lv_at hl 0 rfl) ?_
          refine kget X hP (oC (by first | assumption | omega) (by first | assumption | omega)) g_X0_15 rfl dX0_retainOld_33 ?_
          refine lv_iload_n hx hb dX0_retainOld_36 rfl (lv_at hl 2 rfl) ?_
          refine lv_aload_n hx hb dX0_retainOld_37 rfl (lv_at hl 0 rfl) ?_
          refine kget X hP (oC (by first | assumption | omega) (by first | assumption | omega)) g_X0_15 rfl dX0_retainOld_38 ?_
          refine lv_iload_n hx hb dX0_retainOld_41 rfl (lv_at hl 3 rfl) ?_
          refine kiald X hP (aM hj hc) (by omega) dX0_retainOld_42 ?_
          refine kiast X hI hP hS (aM hj hc) (by omega) dX0_retainOld_43 (fun H locs hP hS => ?_)
          first
            | refine kinc (q := 2) hx hb dX0_retainOld_44 hl rfl (by decide) (kp_4_2 rfl) (fun ls hl => ?_)
            | refine kincG (q := 2) hx hb dX0_retainOld_44 hl rfl (by decide) (kp_4_2 rfl) (fun ls hl => ?_)
          first
            | refine kinc (q := 3) hx hb dX0_retainOld_47 hl rfl (by decide) (kp_4_3 rfl) (fun ls hl => ?_)
            | refine kincG (q := 3) hx hb dX0_retainOld_47 hl rfl (by decide) (kp_4_3 rfl) (fun ls hl => ?_)
          refine lv_goto (tgt := 4) hx hb dX0_retainOld_50 (by decide) ?_
          exact ih_4 _ _ _ _ _ _ (by omega) (by omega) (rf_p iv_1 iv_0.1 c_17) (fun k h1 h2 => by rw [gs_other h2, gs_other h1]; exact iv_2 k h1 h2) (fun p hp => by have q := iv_3 p (by omega); have e : p ≠ x := (by omega); exact ⟨by simpa [gs, z2, e] using q.1, by simpa [gs, e] using q.2⟩) (by have e : (0 : Nat) ≠ x := (by omega); exact ⟨by simpa [gs, z2, e] using iv_4.1, by simpa [gs, e] using iv_4.2⟩) (rf_step iv_1 iv_3 iv_5 (by omega) (by omega) z2) hP hS (lv_sub hl [0,1,2,3] rfl)
  exact lp_4 _ 1 1 G _ _ _ (Nat.lt_succ_self _) (⟨Nat.le_refl _, hp1⟩) (rfl) (fun _ _ _ => rfl) (fun _ _ => ⟨rfl, rfl⟩) (⟨rfl, rfl⟩) (fun p h1 h2 => absurd h1 (by omega)) hP hS (lv_sub hl [0,1,2,3] rfl)
