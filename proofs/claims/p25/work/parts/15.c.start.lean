/-! The law from its entry to its loop. -/
set_option maxHeartbeats 2000000 in
theorem whole_start {p : Program} {e : Env} {s : State} {m : MethodId} {below : List Frame} {meth : Method} {c : Code} (l : Launch) (hflags : l.flags = flags0) {b L : Nat} {xs : Nat → Int32} (hL : L ≤ 260) (C0 : lw_At p s m meth c b L xs) : W p l e room_1 s m #[Value.ref b] below meth c s.heap [] 0 0 (lw_Z below #[Value.ref b] s) (entryFrame m ([Value.ref b] : List Value).toArray 19) := by
  obtain ⟨D, τ, X, hao⟩ := st_kC C0
  obtain ⟨hx, hb, hr, hml, hown, hts, hX, hbl, hlocks, hgv⟩ := id C0
  have hA : ∀ q : Nat, s.heap.size ≤ q → (fun q : Nat => s.heap.size ≤ q) q := fun _ h => h
  have hbA : ¬ (fun q : Nat => s.heap.size ≤ q) b := Nat.not_le.mpr hbl
  have hS : va_S (fun q : Nat => s.heap.size ≤ q) s.heap s.heap [] := va_S.rf
  have hP : va_P D vwCl [] s.heap := fun k q h => by simp at h
  have hD : va_D (fun q : Nat => s.heap.size ≤ q) [] := ⟨fun i j p q h => by simp at h, fun k q h => by simp at h⟩
  have hl := lv_entry ([.ref b]) (n := 19) (Nat.le_of_ble_eq_true rfl)
  rw [lg_entry_eq]
  generalize (lg_sl ([.ref b]) ++ List.replicate (19 - (lg_sl ([.ref b])).length) Slot.unset).toArray = ls at hl ⊢
  have hl : lv_has ls 19 [(0, .ref b)] := hl
  refine bnew X hP hD hS hA (ci := 6) (T := TX6) rfl inK6 tyX6 tyX6_ok ⟨kWs_of 10 (by decide +kernel) rfl, kWs_of 11 (by decide +kernel) rfl, mw_X6_init.2.2⟩ [.null, .null, .null, .null, .null, .int 0] (fun j hj => by rcases (show j = 0 ∨ j = 1 ∨ j = 2 ∨ j = 3 ∨ j = 4 ∨ j = 5 by omega) with rfl | rfl | rfl | rfl | rfl | rfl <;> rfl) (Nat.le_of_ble_eq_true rfl) (Nat.le_of_ble_eq_true rfl) dL_law_0 (fun q1 H hP hD hS => ?_)
  refine lv_dup hx hb dL_law_3 rfl ?_
  refine bcall X hao hP hD hS hA (c_X6_init l q1) ⟨(kWs_of 12 (by decide +kernel) rfl), mw_X6_init.2.1, mw_X6_init.2.2, mw_X6_init.1⟩ ⟨rfl, by decide, by decide, by decide +kernel⟩ ⟨Nat.le_of_ble_eq_true rfl, Nat.le_of_ble_eq_true rfl⟩ (Nat.le_of_ble_eq_true rfl) hl.1 ⟨Nat.le_of_ble_eq_true rfl, Nat.le_of_ble_eq_true rfl⟩ dL_law_4 (fun b1 H locs hb1 hP hD hS => ?_)
  refine lv_astore_n (lv' := [(1, .ref q1), (0, .ref b)]) hx hb dL_law_7 rfl hl (by decide) rfl (fun ls hl => ?_)
  refine lv_lconst (v := lN 0) hx hb dL_law_8 (by decide) ?_
  refine lv_lstore_n (lv' := [(2, .long (lN 0)), (1, .ref q1), (0, .ref b)]) hx hb dL_law_9 rfl hl (by decide) rfl (fun ls hl => ?_)
  refine lv_bipush (v := nI 40) hx hb dL_law_10 (by decide) ?_
  rw [List.nil_append] at hP hD
  refine bnewI X hP hD hS hA (N := 40) (kWs_of 50 (by decide +kernel) rfl) (by omega) (Nat.le_of_ble_eq_true rfl) (Nat.le_of_ble_eq_true rfl) dL_law_12 (fun q2 H hP hD hS => ?_)
  refine lv_astore (lv' := [(4, .ref q2), (2, .long (lN 0)), (1, .ref q1), (0, .ref b)]) hx hb dL_law_14 hl (by decide) rfl (fun ls hl => ?_)
  obtain ⟨hP, hI, hAd⟩ := ord_all hP hD
  have e7 : q1 = adO b1 (fun _ => q2) 7 := by rw [ad_x (k := 7) (n := 0) rfl (by omega)]; exact hb1.symm
  have e0 : q2 = adO b1 (fun _ => q2) 0 := by rw [ad_m (by omega)]
  refine W.widen (k := 600000) (n := 7302250) (Nat.le_of_ble_eq_true rfl) (Nat.le_of_ble_eq_true rfl) ?_
  have fin : ∀ (T : Nat) (ls : Array Slot), T ≤ 40 → lv_has ls 19 [(4, .ref q2), (2, .long (lN 0)), (1, .ref q1), (0, .ref b)] → W p l e room_1 s m #[Value.ref b] below meth c H locs 600000 7302250 (lw_Z below #[Value.ref b] s) (F0 m 34 ls [.int (nI T)]) := by
    intro T ls hT hl
    refine lv_istore (lv' := [(5, .int (nI T)), (4, .ref q2), (2, .long (lN 0)), (1, .ref q1), (0, .ref b)]) hx hb dL_law_34 hl (by decide) rfl (fun ls hl => ?_)
    refine lv_iconst (v := nI 0) hx hb dL_law_36 (by decide) ?_
    refine lv_istore (lv' := [(6, .int (nI 0)), (5, .int (nI T)), (4, .ref q2), (2, .long (lN 0)), (1, .ref q1), (0, .ref b)]) hx hb dL_law_37 hl (by decide) rfl (fun ls hl => ?_)
    rw [e7] at hl
    rw (occs := .pos [1]) [e0] at hl
    refine law_loop l X hX hbl hbA hI (fun q h => ?_) hL hT (fun H locs ls hS => ?_) (T + 1) 0 0 0 (nF 12) (fun _ _ => 0) G0 _ _ _ (by omega) (Nat.zero_le T) (Nat.le_refl _) (first_rln _) first_inv hP hS (lv_sub hl [5, 4, 3, 2, 1, 0] rfl)
    · obtain ⟨k, hk, rfl⟩ := h
      exact hAd k hk
    · refine lv_iconst (v := 1) hx hb dL_law_344 (by decide) ?_
      refine va_forget (fun q hq => hS.2.2 q hq) ?_
      exact lw_ret hx hb hr hlocks dL_law_345
  refine lv_aload_n hx hb dL_law_16 rfl (lv_at hl 3 rfl) ?_
  refine va_slen hx hb hX hbl hbA hS dL_law_17 ?_
  refine lv_iconst (v := nI 3) hx hb dL_law_18 (by decide) ?_
  refine lv_idiv hx hb dL_law_19 (by decide) ?_
  have ed : Int32.ofNat L / nI 3 = nI (L / 3) := pk_div (by omega) (by omega) (by omega)
  rw [ed]
  refine lv_bipush (v := nI 40) hx hb dL_law_20 (by decide) ?_
  refine kic_ge (tgt := 32) (a := L / 3) (b := 40) hx hb dL_law_22 (by decide) rfl rfl (by omega) (by omega) (fun c_22 => ?_) (fun c_22 => ?_)
  · refine lv_bipush (v := nI 40) hx hb dL_law_32 (by decide) ?_
    exact fin 40 _ (Nat.le_refl _) hl
  · refine lv_aload_n hx hb dL_law_25 rfl (lv_at hl 3 rfl) ?_
    refine va_slen hx hb hX hbl hbA hS dL_law_26 ?_
    refine lv_iconst (v := nI 3) hx hb dL_law_27 (by decide) ?_
    refine lv_idiv hx hb dL_law_28 (by decide) ?_
    rw [ed]
    refine lv_goto (tgt := 34) hx hb dL_law_29 (by decide) ?_
    exact fin (L / 3) _ (by omega) hl
