/-! The constructors. -/
def EC (τ : Nat → ClassId) (b : Nat → Nat) (o : Nat) : va_E := match o with
  | 0 => .inr (0, [.ref (b 1), .ref (b 2), .int (nI 1)])
  | _ => .inl (τ 0, 10, .inl (fun _ => 0))
def ER (τ : Nat → ClassId) (b : Nat → Nat) (o : Nat) : va_E := match o with
  | 0 => .inr (3, [.ref (b 1), .int 0, .int 0, .int 0, .int 0, .int 0, .int 0, .int 0, .int 0])
  | _ => .inl (τ 0, 12, .inl (fun _ => 0))
def EM (_ : Nat → Nat) (_ : Nat) : va_E := .inr (1, [.int 0, .int 0, .int 0, .int 0, .int 0, .int 0])
def ET (τ : Nat → ClassId) (b : Nat → Nat) (o : Nat) : va_E := match o with
  | 0 => .inr (5, [.ref (b 1), .int 0, .ref (b 2), .ref (b 3), .int 0])
  | 1 => .inl (τ 1, 60, .inl (fun _ => 0))
  | _ => .inl (τ 0, 16, .inl (fun _ => 0))
/-- numbers to places -/
def nth (L : List Nat) (k : Nat) : Nat := L.getD k 0
set_option maxHeartbeats 4000000 in
set_option maxRecDepth 100000 in
/-- Cell() -/
theorem c_X0_init (l : Launch) {D : va_G} {τ : Nat → ClassId} (h : Nat) : kNc l yX0_init cX0_init 1 { frames := 1, cells := 2, slots := 20, locals := 12 } D τ h (.inr (0, [.null, .null, .int 0])) 3 (EC τ) := by
  refine kNet (own := RX0) (by decide) rfl rfl (Nat.le_of_ble_eq_true rfl) ?_
  intro p9 e9 s9 m9 args9 below9 meth9 c9 Q9 A X hao hx hb hin hA hP hD hS hret ls hl
  refine lv_aload_n hx hb dX0_init_0 rfl (lv_at hl 0 rfl) ?_
  refine bobj X ⟨kWs_of 34 (by decide +kernel) rfl, kWs_of 16 (by decide +kernel) rfl, kWs_of 17 (by decide +kernel) rfl⟩ hl.1 dX0_init_1 ⟨Nat.le_of_ble_eq_true rfl, Nat.le_of_ble_eq_true rfl⟩ ?_
  refine lv_aload_n hx hb dX0_init_4 rfl (lv_at hl 0 rfl) ?_
  refine lv_bipush (v := nI 10) hx hb dX0_init_5 (by decide) ?_
  refine bnewI X hP hD hS hA (kWs_of 50 (by decide +kernel) rfl) (by omega) (by dsimp only; omega) (by dsimp only; omega) dX0_init_7 (fun q1 H hP hD hS => ?_)
  refine bputF X hP hD hS 0 (ci := 0) (T := TX0) rfl rfl g_X0_9 (kWs_of 35 (by decide +kernel) rfl) rfl rfl hin rfl rfl (Nat.le_of_ble_eq_true rfl) dX0_init_9 (fun H locs hP hD hS => ?_)
  have hP : va_P D vwCl [(h, .inr (0, [.ref q1, .null, .int 0])), (q1, .inl (τ 0, 10, .inl (fun _ => 0)))] H := hP
  have hD : va_D A [(h, .inr (0, [.ref q1, .null, .int 0])), (q1, .inl (τ 0, 10, .inl (fun _ => 0)))] := hD
  refine lv_aload_n hx hb dX0_init_12 rfl (lv_at hl 0 rfl) ?_
  refine lv_bipush (v := nI 10) hx hb dX0_init_13 (by decide) ?_
  refine bnewI X hP hD hS hA (kWs_of 50 (by decide +kernel) rfl) (by omega) (by dsimp only; omega) (by dsimp only; omega) dX0_init_15 (fun q2 H hP hD hS => ?_)
  refine bputF X hP hD hS 0 (ci := 0) (T := TX0) rfl rfl g_X0_15 (kWs_of 37 (by decide +kernel) rfl) rfl rfl hin rfl rfl (Nat.le_of_ble_eq_true rfl) dX0_init_17 (fun H locs hP hD hS => ?_)
  have hP : va_P D vwCl [(h, .inr (0, [.ref q1, .ref q2, .int 0])), (q1, .inl (τ 0, 10, .inl (fun _ => 0))), (q2, .inl (τ 0, 10, .inl (fun _ => 0)))] H := hP
  have hD : va_D A [(h, .inr (0, [.ref q1, .ref q2, .int 0])), (q1, .inl (τ 0, 10, .inl (fun _ => 0))), (q2, .inl (τ 0, 10, .inl (fun _ => 0)))] := hD
  refine lv_aload_n hx hb dX0_init_20 rfl (lv_at hl 0 rfl) ?_
  refine lv_iconst (v := nI 1) hx hb dX0_init_21 (by decide) ?_
  refine bputI X hP hD hS 0 (ci := 0) (T := TX0) rfl rfl g_X0_18 (kWs_of 40 (by decide +kernel) rfl) rfl rfl rfl (Nat.le_of_ble_eq_true rfl) dX0_init_22 (fun H locs hP hD hS => ?_)
  have hP : va_P D vwCl [(h, .inr (0, [.ref q1, .ref q2, .int (nI 1)])), (q1, .inl (τ 0, 10, .inl (fun _ => 0))), (q2, .inl (τ 0, 10, .inl (fun _ => 0)))] H := hP
  have hD : va_D A [(h, .inr (0, [.ref q1, .ref q2, .int (nI 1)])), (q1, .inl (τ 0, 10, .inl (fun _ => 0))), (q2, .inl (τ 0, 10, .inl (fun _ => 0)))] := hD
  exact hret (nth [h, q1, q2]) H locs 25 ls rfl hP hD hS dX0_init_25
set_option maxHeartbeats 4000000 in
set_option maxRecDepth 100000 in
/-- Reader() -/
theorem c_X3_init (l : Launch) {D : va_G} {τ : Nat → ClassId} (h : Nat) : kNc l yX3_init cX3_init 1 { frames := 1, cells := 1, slots := 12, locals := 12 } D τ h (.inr (3, [.null, .int 0, .int 0, .int 0, .int 0, .int 0, .int 0, .int 0, .int 0])) 2 (ER τ) := by
  refine kNet (own := RX3) (by decide) rfl rfl (Nat.le_of_ble_eq_true rfl) ?_
  intro p9 e9 s9 m9 args9 below9 meth9 c9 Q9 A X hao hx hb hin hA hP hD hS hret ls hl
  refine lv_aload_n hx hb dX3_init_0 rfl (lv_at hl 0 rfl) ?_
  refine bobj X ⟨kWs_of 55 (by decide +kernel) rfl, kWs_of 16 (by decide +kernel) rfl, kWs_of 17 (by decide +kernel) rfl⟩ hl.1 dX3_init_1 ⟨Nat.le_of_ble_eq_true rfl, Nat.le_of_ble_eq_true rfl⟩ ?_
  refine lv_aload_n hx hb dX3_init_4 rfl (lv_at hl 0 rfl) ?_
  refine lv_bipush (v := nI 12) hx hb dX3_init_5 (by decide) ?_
  refine bnewI X hP hD hS hA (kWs_of 50 (by decide +kernel) rfl) (by omega) (by dsimp only; omega) (by dsimp only; omega) dX3_init_7 (fun q1 H hP hD hS => ?_)
  refine bputF X hP hD hS 0 (ci := 3) (T := TX3) rfl rfl g_X3_9 (kWs_of 56 (by decide +kernel) rfl) rfl rfl hin rfl rfl (Nat.le_of_ble_eq_true rfl) dX3_init_9 (fun H locs hP hD hS => ?_)
  have hP : va_P D vwCl [(h, .inr (3, [.ref q1, .int 0, .int 0, .int 0, .int 0, .int 0, .int 0, .int 0, .int 0])), (q1, .inl (τ 0, 12, .inl (fun _ => 0)))] H := hP
  have hD : va_D A [(h, .inr (3, [.ref q1, .int 0, .int 0, .int 0, .int 0, .int 0, .int 0, .int 0, .int 0])), (q1, .inl (τ 0, 12, .inl (fun _ => 0)))] := hD
  exact hret (nth [h, q1]) H locs 12 ls rfl hP hD hS dX3_init_12
set_option maxHeartbeats 4000000 in
set_option maxRecDepth 100000 in
/-- Commit() -/
theorem c_X1_init (l : Launch) {D : va_G} {τ : Nat → ClassId} (h : Nat) : kNc l yX1_init cX1_init 1 { frames := 1, cells := 0, slots := 0, locals := 12 } D τ h (.inr (1, [.int 0, .int 0, .int 0, .int 0, .int 0, .int 0])) 1 EM := by
  refine kNet (own := RX1) (by decide) rfl rfl (Nat.le_of_ble_eq_true rfl) ?_
  intro p9 e9 s9 m9 args9 below9 meth9 c9 Q9 A X hao hx hb hin hA hP hD hS hret ls hl
  refine lv_aload_n hx hb dX1_init_0 rfl (lv_at hl 0 rfl) ?_
  refine bobj X ⟨kWs_of 108 (by decide +kernel) rfl, kWs_of 16 (by decide +kernel) rfl, kWs_of 17 (by decide +kernel) rfl⟩ hl.1 dX1_init_1 ⟨Nat.le_of_ble_eq_true rfl, Nat.le_of_ble_eq_true rfl⟩ ?_
  exact hret (nth [h]) _ _ 4 ls rfl hP hD hS dX1_init_4
set_option maxHeartbeats 4000000 in
set_option maxRecDepth 100000 in
/-- WriteText() -/
theorem c_X5_init (l : Launch) {D : va_G} {τ : Nat → ClassId} (h : Nat) : kNc l yX5_init cX5_init 1 { frames := 1, cells := 3, slots := 92, locals := 12 } D τ h (.inr (5, [.null, .int 0, .null, .null, .int 0])) 4 (ET τ) := by
  refine kNet (own := RX5) (by decide) rfl rfl (Nat.le_of_ble_eq_true rfl) ?_
  intro p9 e9 s9 m9 args9 below9 meth9 c9 Q9 A X hao hx hb hin hA hP hD hS hret ls hl
  refine lv_aload_n hx hb dX5_init_0 rfl (lv_at hl 0 rfl) ?_
  refine bobj X ⟨kWs_of 206 (by decide +kernel) rfl, kWs_of 16 (by decide +kernel) rfl, kWs_of 17 (by decide +kernel) rfl⟩ hl.1 dX5_init_1 ⟨Nat.le_of_ble_eq_true rfl, Nat.le_of_ble_eq_true rfl⟩ ?_
  refine lv_aload_n hx hb dX5_init_4 rfl (lv_at hl 0 rfl) ?_
  refine lv_bipush (v := nI 60) hx hb dX5_init_5 (by decide) ?_
  refine bnewC X hP hD hS hA (kWs_of 222 (by decide +kernel) rfl) (by omega) (by dsimp only; omega) (by dsimp only; omega) dX5_init_7 (fun q1 H hP hD hS => ?_)
  refine bputF X hP hD hS 0 (ci := 5) (T := TX5) rfl rfl g_X5_9 (kWs_of 207 (by decide +kernel) rfl) rfl rfl hin rfl rfl (Nat.le_of_ble_eq_true rfl) dX5_init_9 (fun H locs hP hD hS => ?_)
  have hP : va_P D vwCl [(h, .inr (5, [.ref q1, .int 0, .null, .null, .int 0])), (q1, .inl (τ 1, 60, .inl (fun _ => 0)))] H := hP
  have hD : va_D A [(h, .inr (5, [.ref q1, .int 0, .null, .null, .int 0])), (q1, .inl (τ 1, 60, .inl (fun _ => 0)))] := hD
  refine lv_aload_n hx hb dX5_init_12 rfl (lv_at hl 0 rfl) ?_
  refine lv_bipush (v := nI 16) hx hb dX5_init_13 (by decide) ?_
  refine bnewI X hP hD hS hA (kWs_of 50 (by decide +kernel) rfl) (by omega) (by dsimp only; omega) (by dsimp only; omega) dX5_init_15 (fun q2 H hP hD hS => ?_)
  refine bputF X hP hD hS 0 (ci := 5) (T := TX5) rfl rfl g_X5_15 (kWs_of 209 (by decide +kernel) rfl) rfl rfl hin rfl rfl (Nat.le_of_ble_eq_true rfl) dX5_init_17 (fun H locs hP hD hS => ?_)
  have hP : va_P D vwCl [(h, .inr (5, [.ref q1, .int 0, .ref q2, .null, .int 0])), (q1, .inl (τ 1, 60, .inl (fun _ => 0))), (q2, .inl (τ 0, 16, .inl (fun _ => 0)))] H := hP
  have hD : va_D A [(h, .inr (5, [.ref q1, .int 0, .ref q2, .null, .int 0])), (q1, .inl (τ 1, 60, .inl (fun _ => 0))), (q2, .inl (τ 0, 16, .inl (fun _ => 0)))] := hD
  refine lv_aload_n hx hb dX5_init_20 rfl (lv_at hl 0 rfl) ?_
  refine lv_bipush (v := nI 16) hx hb dX5_init_21 (by decide) ?_
  refine bnewI X hP hD hS hA (kWs_of 50 (by decide +kernel) rfl) (by omega) (by dsimp only; omega) (by dsimp only; omega) dX5_init_23 (fun q3 H hP hD hS => ?_)
  refine bputF X hP hD hS 0 (ci := 5) (T := TX5) rfl rfl g_X5_19 (kWs_of 210 (by decide +kernel) rfl) rfl rfl hin rfl rfl (Nat.le_of_ble_eq_true rfl) dX5_init_25 (fun H locs hP hD hS => ?_)
  have hP : va_P D vwCl [(h, .inr (5, [.ref q1, .int 0, .ref q2, .ref q3, .int 0])), (q1, .inl (τ 1, 60, .inl (fun _ => 0))), (q2, .inl (τ 0, 16, .inl (fun _ => 0))), (q3, .inl (τ 0, 16, .inl (fun _ => 0)))] H := hP
  have hD : va_D A [(h, .inr (5, [.ref q1, .int 0, .ref q2, .ref q3, .int 0])), (q1, .inl (τ 1, 60, .inl (fun _ => 0))), (q2, .inl (τ 0, 16, .inl (fun _ => 0))), (q3, .inl (τ 0, 16, .inl (fun _ => 0)))] := hD
  exact hret (nth [h, q1, q2, q3]) H locs 28 ls rfl hP hD hS dX5_init_28
