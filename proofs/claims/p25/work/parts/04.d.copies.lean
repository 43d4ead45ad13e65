theorem dueF_congr {G G' : Nat → Nat → Int32} {j n r : Nat} {P : Nat → Nat} (h : ∀ k, k ≠ sD j → G' k = G k) (hr : r < 40) : dueF G' j n P r = dueF G j n P r := by
  have e1 : ∀ i, G' (rN j i) = G (rN j i) := fun i => h _ (by unfold rN sD; omega)
  have e2 : ∀ c, G' (cM j c) = G (cM j c) := fun c => h _ (by unfold cM sD; omega)
  have e3 : G' (sB j) = G (sB j) := h _ (by unfold sB sD; omega)
  unfold dueF shF pyF
  simp only [e1, e2, e3]
set_option maxHeartbeats 4000000 in
set_option maxRecDepth 100000 in
theorem c_X3_copyFrom (l : Launch) {D : va_G} {τ : Nat → ClassId} {ad : Nat → Nat} (hI : kInj ad) {G : Nat → Nat → Int32} {j r j2 r2 : Nat} (hj : j < 7) (hr : r < 40) (hj2 : j2 < 7) (hr2 : r2 < 40) (hz : G (rN j2 r2) 8 = 0 ∨ G (rN j2 r2) 8 = 1) : kMv l yX3_copyFrom cX3_copyFrom 2 { frames := 1, cells := 0, slots := 0, locals := 40 } D τ ad [.ref (ad (rN j r)), .ref (ad (rN j2 r2))] G (fun G' => (∀ k, k ≠ rN j r → k ≠ rW j r → G' k = G k) ∧ (∀ p, p < 12 → G' (rW j r) p = G (rW j2 r2) p) ∧ ∀ f, 1 ≤ f → f ≤ 8 → G' (rN j r) f = G (rN j2 r2) f) := by
  refine kMetV (own := RX3) (by decide) rfl (Nat.le_of_ble_eq_true rfl) ?_
  intro p9 e9 s9 m9 args9 below9 meth9 c9 Q9 X hx hb hP hS hret ls hl
  have hPs := hP
  have hl : lv_has ls 2 [(0, .ref (ad (rN j r))), (1, .ref (ad (rN j2 r2)))] := hl
  have z0 : rN j2 r2 ≠ rW j r := by unfold rN rW; omega
  have z1 : rW j r ≠ rN j r := by unfold rW rN; omega
  refine lv_aload_n hx hb dX3_copyFrom_0 rfl (lv_at hl 1 rfl) ?_
  refine kget X hP (oR (by first | assumption | omega) (by first | assumption | omega)) g_X3_9 rfl dX3_copyFrom_1 ?_
  refine lv_iconst (v := nI 0) hx hb dX3_copyFrom_4 (by decide) ?_
  refine lv_aload_n hx hb dX3_copyFrom_5 rfl (lv_at hl 0 rfl) ?_
  refine kget X hP (oR (by first | assumption | omega) (by first | assumption | omega)) g_X3_9 rfl dX3_copyFrom_6 ?_
  refine lv_iconst (v := nI 0) hx hb dX3_copyFrom_9 (by decide) ?_
  refine lv_bipush (v := nI 12) hx hb dX3_copyFrom_10 (by decide) ?_
  refine kcopy X hI hP hS (aW hj2 hr2) (aW hj hr) ⟨kWs_of 399 (by decide +kernel) rfl, kWs_of 394 (by decide +kernel) rfl, kWs_of 393 (by decide +kernel) rfl, kWs_of 8 (by decide +kernel) rfl⟩ (by omega) (by omega) ⟨Nat.le_of_ble_eq_true rfl, Nat.le_of_ble_eq_true rfl⟩ (Nat.le_of_ble_eq_true rfl) hl.1 dX3_copyFrom_12 (fun H locs hP hS => ?_)
  refine lv_aload_n hx hb dX3_copyFrom_15 rfl (lv_at hl 0 rfl) ?_
  refine lv_aload_n hx hb dX3_copyFrom_16 rfl (lv_at hl 1 rfl) ?_
  refine kget X hP (oR (by first | assumption | omega) (by first | assumption | omega)) g_X3_15 rfl dX3_copyFrom_17 ?_
  refine kput X hI hP hS (oR (by first | assumption | omega) (by first | assumption | omega)) g_X3_15 (fun _ => rfl) rfl (fun _ => Nat.le_of_ble_eq_true rfl) rfl rfl dX3_copyFrom_20 (fun H locs hP hS => ?_)
  refine lv_aload_n hx hb dX3_copyFrom_23 rfl (lv_at hl 0 rfl) ?_
  refine lv_aload_n hx hb dX3_copyFrom_24 rfl (lv_at hl 1 rfl) ?_
  refine kget X hP (oR (by first | assumption | omega) (by first | assumption | omega)) g_X3_19 rfl dX3_copyFrom_25 ?_
  refine kput X hI hP hS (oR (by first | assumption | omega) (by first | assumption | omega)) g_X3_19 (fun _ => rfl) rfl (fun _ => Nat.le_of_ble_eq_true rfl) rfl rfl dX3_copyFrom_28 (fun H locs hP hS => ?_)
  refine lv_aload_n hx hb dX3_copyFrom_31 rfl (lv_at hl 0 rfl) ?_
  refine lv_aload_n hx hb dX3_copyFrom_32 rfl (lv_at hl 1 rfl) ?_
  refine kget X hP (oR (by first | assumption | omega) (by first | assumption | omega)) g_X3_22 rfl dX3_copyFrom_33 ?_
  refine kput X hI hP hS (oR (by first | assumption | omega) (by first | assumption | omega)) g_X3_22 (fun _ => rfl) rfl (fun _ => Nat.le_of_ble_eq_true rfl) rfl rfl dX3_copyFrom_36 (fun H locs hP hS => ?_)
  refine lv_aload_n hx hb dX3_copyFrom_39 rfl (lv_at hl 0 rfl) ?_
  refine lv_aload_n hx hb dX3_copyFrom_40 rfl (lv_at hl 1 rfl) ?_
  refine kget X hP (oR (by first | assumption | omega) (by first | assumption | omega)) g_X3_25 rfl dX3_copyFrom_41 ?_
  refine kput X hI hP hS (oR (by first | assumption | omega) (by first | assumption | omega)) g_X3_25 (fun _ => rfl) rfl (fun _ => Nat.le_of_ble_eq_true rfl) rfl rfl dX3_copyFrom_44 (fun H locs hP hS => ?_)
  refine lv_aload_n hx hb dX3_copyFrom_47 rfl (lv_at hl 0 rfl) ?_
  refine lv_aload_n hx hb dX3_copyFrom_48 rfl (lv_at hl 1 rfl) ?_
  refine kget X hP (oR (by first | assumption | omega) (by first | assumption | omega)) g_X3_28 rfl dX3_copyFrom_49 ?_
  refine kput X hI hP hS (oR (by first | assumption | omega) (by first | assumption | omega)) g_X3_28 (fun _ => rfl) rfl (fun _ => Nat.le_of_ble_eq_true rfl) rfl rfl dX3_copyFrom_52 (fun H locs hP hS => ?_)
  refine lv_aload_n hx hb dX3_copyFrom_55 rfl (lv_at hl 0 rfl) ?_
  refine lv_aload_n hx hb dX3_copyFrom_56 rfl (lv_at hl 1 rfl) ?_
  refine kget X hP (oR (by first | assumption | omega) (by first | assumption | omega)) g_X3_31 rfl dX3_copyFrom_57 ?_
  refine kput X hI hP hS (oR (by first | assumption | omega) (by first | assumption | omega)) g_X3_31 (fun _ => rfl) rfl (fun _ => Nat.le_of_ble_eq_true rfl) rfl rfl dX3_copyFrom_60 (fun H locs hP hS => ?_)
  refine lv_aload_n hx hb dX3_copyFrom_63 rfl (lv_at hl 0 rfl) ?_
  refine lv_aload_n hx hb dX3_copyFrom_64 rfl (lv_at hl 1 rfl) ?_
  refine kget X hP (oR (by first | assumption | omega) (by first | assumption | omega)) g_X3_34 rfl dX3_copyFrom_65 ?_
  refine kput X hI hP hS (oR (by first | assumption | omega) (by first | assumption | omega)) g_X3_34 (fun _ => rfl) rfl (fun _ => Nat.le_of_ble_eq_true rfl) rfl rfl dX3_copyFrom_68 (fun H locs hP hS => ?_)
  refine lv_aload_n hx hb dX3_copyFrom_71 rfl (lv_at hl 0 rfl) ?_
  refine lv_aload_n hx hb dX3_copyFrom_72 rfl (lv_at hl 1 rfl) ?_
  refine kget X hP (oR (by first | assumption | omega) (by first | assumption | omega)) g_X3_37 rfl dX3_copyFrom_73 ?_
  have hz2 : ∀ q : Int32, q = G (rN j2 r2) 8 → narrow (tyX3 8) (.int q) = .int q ∧ fits (tyX3 8) (.int q) = true := fun q hq => by rcases hz with h | h <;> rw [hq, h] <;> exact ⟨rfl, rfl⟩
  refine kput X hI hP hS (oR (by first | assumption | omega) (by first | assumption | omega)) g_X3_37 (fun _ => rfl) rfl (fun _ => Nat.le_of_ble_eq_true rfl) (hz2 _ (by simp [gs, gc, z0])).1 (hz2 _ (by simp [gs, gc, z0])).2 dX3_copyFrom_76 (fun H locs hP hS => ?_)
  exact hret _ _ _ _ _ (by
      refine ⟨fun k h1 h2 => ?_, fun p hp => ?_, fun f h1 h2 => ?_⟩
      · funext f; simp [gs, gc, h1, h2]
      · simp [gs, gc, cpy, z1, hp]
      · rcases (show f = 1 ∨ f = 2 ∨ f = 3 ∨ f = 4 ∨ f = 5 ∨ f = 6 ∨ f = 7 ∨ f = 8 by omega) with h | h | h | h | h | h | h | h <;> subst h <;> simp [gs, gc, z0]) hP hS dX3_copyFrom_79

set_option maxHeartbeats 4000000 in
set_option maxRecDepth 100000 in
theorem c_X1_copyFrom (l : Launch) {D : va_G} {τ : Nat → ClassId} {ad : Nat → Nat} (hI : kInj ad) {G : Nat → Nat → Int32} {j q j2 q2 : Nat} (hj : j < 7) (hq : q < 40) (hj2 : j2 < 7) (hq2 : q2 < 40) : kMv l yX1_copyFrom cX1_copyFrom 2 { frames := 0, cells := 0, slots := 0, locals := 0 } D τ ad [.ref (ad (mC j q)), .ref (ad (mC j2 q2))] G (fun G' => (∀ k, k ≠ mC j q → G' k = G k) ∧ ∀ f, f < 6 → G' (mC j q) f = G (mC j2 q2) f) := by
  refine kMetV (own := RX1) (by decide) rfl (Nat.le_of_ble_eq_true rfl) ?_
  intro p9 e9 s9 m9 args9 below9 meth9 c9 Q9 X hx hb hP hS hret ls hl
  have hPs := hP
  have hl : lv_has ls 2 [(0, .ref (ad (mC j q))), (1, .ref (ad (mC j2 q2)))] := hl
  refine lv_aload_n hx hb dX1_copyFrom_0 rfl (lv_at hl 0 rfl) ?_
  refine lv_aload_n hx hb dX1_copyFrom_1 rfl (lv_at hl 1 rfl) ?_
  refine kget X hP (oM (by first | assumption | omega) (by first | assumption | omega)) g_X1_7 rfl dX1_copyFrom_2 ?_
  refine kput X hI hP hS (oM (by first | assumption | omega) (by first | assumption | omega)) g_X1_7 (fun _ => rfl) rfl (fun _ => Nat.le_of_ble_eq_true rfl) rfl rfl dX1_copyFrom_5 (fun H locs hP hS => ?_)
  refine lv_aload_n hx hb dX1_copyFrom_8 rfl (lv_at hl 0 rfl) ?_
  refine lv_aload_n hx hb dX1_copyFrom_9 rfl (lv_at hl 1 rfl) ?_
  refine kget X hP (oM (by first | assumption | omega) (by first | assumption | omega)) g_X1_13 rfl dX1_copyFrom_10 ?_
  refine kput X hI hP hS (oM (by first | assumption | omega) (by first | assumption | omega)) g_X1_13 (fun _ => rfl) rfl (fun _ => Nat.le_of_ble_eq_true rfl) rfl rfl dX1_copyFrom_13 (fun H locs hP hS => ?_)
  refine lv_aload_n hx hb dX1_copyFrom_16 rfl (lv_at hl 0 rfl) ?_
  refine lv_aload_n hx hb dX1_copyFrom_17 rfl (lv_at hl 1 rfl) ?_
  refine kget X hP (oM (by first | assumption | omega) (by first | assumption | omega)) g_X1_16 rfl dX1_copyFrom_18 ?_
  refine kput X hI hP hS (oM (by first | assumption | omega) (by first | assumption | omega)) g_X1_16 (fun _ => rfl) rfl (fun _ => Nat.le_of_ble_eq_true rfl) rfl rfl dX1_copyFrom_21 (fun H locs hP hS => ?_)
  refine lv_aload_n hx hb dX1_copyFrom_24 rfl (lv_at hl 0 rfl) ?_
  refine lv_aload_n hx hb dX1_copyFrom_25 rfl (lv_at hl 1 rfl) ?_
  refine kget X hP (oM (by first | assumption | omega) (by first | assumption | omega)) g_X1_19 rfl dX1_copyFrom_26 ?_
  refine kput X hI hP hS (oM (by first | assumption | omega) (by first | assumption | omega)) g_X1_19 (fun _ => rfl) rfl (fun _ => Nat.le_of_ble_eq_true rfl) rfl rfl dX1_copyFrom_29 (fun H locs hP hS => ?_)
  refine lv_aload_n hx hb dX1_copyFrom_32 rfl (lv_at hl 0 rfl) ?_
  refine lv_aload_n hx hb dX1_copyFrom_33 rfl (lv_at hl 1 rfl) ?_
  refine kget X hP (oM (by first | assumption | omega) (by first | assumption | omega)) g_X1_22 rfl dX1_copyFrom_34 ?_
  refine kput X hI hP hS (oM (by first | assumption | omega) (by first | assumption | omega)) g_X1_22 (fun _ => rfl) rfl (fun _ => Nat.le_of_ble_eq_true rfl) rfl rfl dX1_copyFrom_37 (fun H locs hP hS => ?_)
  refine lv_aload_n hx hb dX1_copyFrom_40 rfl (lv_at hl 0 rfl) ?_
  refine lv_aload_n hx hb dX1_copyFrom_41 rfl (lv_at hl 1 rfl) ?_
  refine kget X hP (oM (by first | assumption | omega) (by first | assumption | omega)) g_X1_25 rfl dX1_copyFrom_42 ?_
  refine kput X hI hP hS (oM (by first | assumption | omega) (by first | assumption | omega)) g_X1_25 (fun _ => rfl) rfl (fun _ => Nat.le_of_ble_eq_true rfl) rfl rfl dX1_copyFrom_45 (fun H locs hP hS => ?_)
  exact hret _ _ _ _ _ (by
      refine ⟨fun k h1 => ?_, fun f h2 => ?_⟩
      · funext f; simp [gs, h1]
      · rcases (show f = 0 ∨ f = 1 ∨ f = 2 ∨ f = 3 ∨ f = 4 ∨ f = 5 by omega) with h | h | h | h | h | h <;> subst h <;> simp [gs]) hP hS dX1_copyFrom_48

set_option maxHeartbeats 4000000 in
set_option maxRecDepth 100000 in
theorem c_X4_addReader (l : Launch) {D : va_G} {τ : Nat → ClassId} {ad : Nat → Nat} (hI : kInj ad) {G : Nat → Nat → Int32} {j n : Nat} {x : Int32} (hj : j < 7) (hn : G (sB j) 6 = nI n) (hn4 : n < 40) : kM l yX4_addReader cX4_addReader 3 (some .int) { frames := 1, cells := 0, slots := 0, locals := 22 } D τ ad [.ref (ad (sB j)), .int x] G (fun v G' => v = nI n ∧ G' = gs (gs (gs (gs (gs (gs (gs (gs (gs G (rN j n) 1 0) (rN j n) 2 (G (sB j) 3)) (rN j n) 3 x) (rN j n) 4 0) (rN j n) 5 0) (rN j n) 6 0) (rN j n) 7 0) (rN j n) 8 0) (sB j) 6 (nI (n + 1))) := by
  refine kMet (own := RX4) (by decide) rfl (Nat.le_of_ble_eq_true rfl) ?_
  intro p9 e9 s9 m9 args9 below9 meth9 c9 Q9 X hx hb hP hS hret ls hl
  have hPs := hP
  have hl : lv_has ls 3 [(0, .ref (ad (sB j))), (1, .int x)] := hl
  have z0 : sB j ≠ rN j n := by unfold sB rN; omega
  refine lv_aload_n hx hb dX4_addReader_0 rfl (lv_at hl 0 rfl) ?_
  refine kget X hP (oS (by first | assumption | omega)) g_X4_44 (congrArg (fun z => some (Value.int z)) hn) dX4_addReader_1 ?_
  refine kist hx hb dX4_addReader_4 rfl hl (by decide) (kp_2_2 rfl) (fun ls hl => ?_)
  refine lv_aload_n hx hb dX4_addReader_5 rfl (lv_at hl 0 rfl) ?_
  refine kget X hP (oS (by first | assumption | omega)) g_X4_19 rfl dX4_addReader_6 ?_
  refine lv_iload_n hx hb dX4_addReader_9 rfl (lv_at hl 2 rfl) ?_
  refine kaald X hP (qR (by first | assumption | omega)) (by first | assumption | omega) rfl dX4_addReader_10 ?_
  refine lv_aload_n hx hb dX4_addReader_11 rfl (lv_at hl 0 rfl) ?_
  refine kget X hP (oS (by first | assumption | omega)) g_X4_56 rfl dX4_addReader_12 ?_
  refine lv_iload_n hx hb dX4_addReader_15 rfl (lv_at hl 1 rfl) ?_
  refine kcVv X hP hS (c_X3_begin l hI hj (by omega)) (oR (by first | assumption | omega) (by first | assumption | omega)) v_X4_69 ⟨Nat.le_of_ble_eq_true rfl, Nat.le_of_ble_eq_true rfl, rfl, rfl⟩ rfl rfl (Nat.le_of_ble_eq_true rfl) hl.1 ⟨Nat.zero_le _, Nat.zero_le _⟩ dX4_addReader_16 (fun G_16 H locs hR hP hS => ?_)
  subst hR
  refine lv_aload_n hx hb dX4_addReader_19 rfl (lv_at hl 0 rfl) ?_
  refine lv_dup hx hb dX4_addReader_20 rfl ?_
  have hn2 : (gs (gs (gs (gs (gs (gs (gs (gs G (rN j n) 1 0) (rN j n) 2 (G (sB j) 3)) (rN j n) 3 x) (rN j n) 4 0) (rN j n) 5 0) (rN j n) 6 0) (rN j n) 7 0) (rN j n) 8 0) (sB j) 6 = nI n := by simp [gs, z0, hn]
  refine kget X hP (oS (by first | assumption | omega)) g_X4_44 (congrArg (fun z => some (Value.int z)) hn2) dX4_addReader_21 ?_
  refine lv_iconst (v := nI 1) hx hb dX4_addReader_24 (by decide) ?_
  first
    | refine kadd hx hb dX4_addReader_25 (by with_reducible rfl) (by with_reducible rfl) ?_
    | refine lv_iadd hx hb dX4_addReader_25 ?_
  refine kput X hI hP hS (oS (by first | assumption | omega)) g_X4_44 (fun _ => rfl) rfl (fun _ => Nat.le_of_ble_eq_true rfl) rfl rfl dX4_addReader_26 (fun H locs hP hS => ?_)
  refine lv_iload_n hx hb dX4_addReader_29 rfl (lv_at hl 2 rfl) ?_
  exact hret _ _ _ _ _ _ (⟨rfl, rfl⟩) hP hS dX4_addReader_30

set_option maxHeartbeats 4000000 in
set_option maxRecDepth 100000 in
theorem c_X4_tellDues (l : Launch) {D : va_G} {τ : Nat → ClassId} {ad : Nat → Nat} (hI : kInj ad) {G : Nat → Nat → Int32} {j n : Nat} {P : Nat → Nat} (hj : j < 7) (hn : G (sB j) 6 = nI n) (hn4 : n ≤ 40) (hp : ∀ c, c < 12 → G (cB j c) 2 = nI (P c) ∧ P c ≤ 10) : kMv l yX4_tellDues cX4_tellDues 2 { frames := 4, cells := 0, slots := 0, locals := 93 } D τ ad [.ref (ad (sB j))] G (fun G' => (∀ k, k ≠ sD j → G' k = G k) ∧ ∀ t, t < n → G' (sD j) t = dueF G j n P t) := by
  refine kMetV (own := RX4) (by decide) rfl (Nat.le_of_ble_eq_true rfl) ?_
  intro p9 e9 s9 m9 args9 below9 meth9 c9 Q9 X hx hb hP hS hret ls hl
  have hPs := hP
  have hl : lv_has ls 2 [(0, .ref (ad (sB j)))] := hl
  have zS : sB j ≠ sD j := by unfold sB sD; omega
  refine lv_iconst (v := nI 0) hx hb dX4_tellDues_0 (by decide) ?_
  refine kist hx hb dX4_tellDues_1 rfl hl (by decide) (kp_1_1 rfl) (fun ls hl => ?_)
  have lp_2 : ∀ (d : Nat) (i : Nat) (G1 : Nat → Nat → Int32) (H : Heap) (locs : List Loc) (ls : Array Slot), (n - i) < d → (i ≤ n) → (∀ k, k ≠ sD j → G1 k = G k) → (∀ t, t < i → G1 (sD j) t = dueF G j n P t) → va_P D vwCl (kW τ ad G1) H → va_S (kAd ad) s9.heap H locs → lv_has ls 2 [(0, .ref (ad (sB j))), (1, .int (nI i))] → W p9 l e9 { frames := 4, cells := 0, slots := 0, locals := 93 } s9 m9 args9 below9 meth9 c9 H locs 0 0 Q9 (F0 m9 2 ls []) := by
    intro d
    induction d with
    | zero => exact fun _ _ _ _ _ hd => absurd hd (Nat.not_lt_zero _)
    | succ d ih_2 =>
      intro i G1 H locs ls hd iv_0 iv_1 iv_2 hP hS hl
      refine lv_iload_n hx hb dX4_tellDues_2 rfl (lv_at hl 1 rfl) ?_
      refine lv_aload_n hx hb dX4_tellDues_3 rfl (lv_at hl 0 rfl) ?_
      refine kget X hP (oS (by first | assumption | omega)) g_X4_44 (congrArg (fun z => some (Value.int z)) (show G1 (sB j) 6 = nI n from by rw [iv_1 _ zS]; exact hn)) dX4_tellDues_4 ?_
      first
        | refine kic_ge (tgt := 32) hx hb dX4_tellDues_7 (by decide) (by with_reducible rfl) (by with_reducible rfl) (by omega) (by omega) (fun c_7 => ?_) (fun c_7 => ?_)
        | refine lv_icmp_ge (tgt := 32) hx hb dX4_tellDues_7 (by decide) (fun c_7 => ?_) (fun c_7 => ?_)
      · skip
        exact hret _ _ _ _ _ (⟨iv_1, fun t ht => iv_2 t (by omega)⟩) hP hS dX4_tellDues_32
      · skip
        refine lv_aload_n hx hb dX4_tellDues_10 rfl (lv_at hl 0 rfl) ?_
        refine kget X hP (oS (by first | assumption | omega)) g_X4_33 rfl dX4_tellDues_11 ?_
        refine lv_iload_n hx hb dX4_tellDues_14 rfl (lv_at hl 1 rfl) ?_
        refine lv_aload_n hx hb dX4_tellDues_15 rfl (lv_at hl 0 rfl) ?_
        refine lv_aload_n hx hb dX4_tellDues_16 rfl (lv_at hl 0 rfl) ?_
        refine kget X hP (oS (by first | assumption | omega)) g_X4_19 rfl dX4_tellDues_17 ?_
        refine lv_iload_n hx hb dX4_tellDues_20 rfl (lv_at hl 1 rfl) ?_
        refine kaald X hP (qR (by first | assumption | omega)) (by first | assumption | omega) rfl dX4_tellDues_21 ?_
        refine kcV X hP hS (c_X4_dueOf l hI (P := P) hj (by rw [iv_1 _ zS]; exact hn) hn4 (by omega) (fun c hc => by rw [iv_1 _ (by unfold cB sD; omega)]; exact hp c hc)) (oS (by first | assumption | omega)) v_X4_117 ⟨Nat.le_of_ble_eq_true rfl, Nat.le_of_ble_eq_true rfl, rfl, rfl⟩ rfl rfl (Nat.le_of_ble_eq_true rfl) hl.1 ⟨Nat.zero_le _, Nat.zero_le _⟩ dX4_tellDues_22 (fun r_22 G_22 H locs hR hP hS => ?_)
        obtain ⟨rfl, hG_22⟩ := hR
        rw [hG_22] at hP
        clear hG_22
        rw [dueF_congr (G' := G1) (G := G) (fun k h => iv_1 k h) (by omega)]
        refine kiast X hI hP hS (aD (by first | assumption | omega)) (by first | assumption | omega) dX4_tellDues_25 (fun H locs hP hS => ?_)
        first
          | refine kinc (q := 1) hx hb dX4_tellDues_26 hl rfl (by decide) (kp_2_1 rfl) (fun ls hl => ?_)
          | refine kincG (q := 1) hx hb dX4_tellDues_26 hl rfl (by decide) (kp_2_1 rfl) (fun ls hl => ?_)
        refine lv_goto (tgt := 2) hx hb dX4_tellDues_29 (by decide) ?_
        exact ih_2 _ _ _ _ _ (by omega) (by omega) (fun k h => by rw [gs_other h]; exact iv_1 k h) (fun t ht => by
                by_cases e : t = i
                · subst e; simp [gs]
                · simp [gs, e]; exact iv_2 t (by omega)) hP hS (lv_sub hl [0,1] rfl)
  exact lp_2 _ 0 G _ _ _ (Nat.lt_succ_self _) (Nat.zero_le _) (fun _ _ => rfl) (fun t h => absurd h (by omega)) hP hS (lv_sub hl [0,1] rfl)
