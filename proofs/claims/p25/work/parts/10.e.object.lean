/-! The two objects of the law. -/
def XE (τ : Nat → ClassId) (b : Nat → Nat) (o : Nat) : va_E :=
  if o = 0 then .inr (6, [.ref (b 1), .ref (b 162), .ref (b 323), .ref (b 484), .ref (b 1130), .int 0])
  else if o < 484 then YE τ (fun x => b (1 + 161 * ((o - 1) / 161) + x)) 12 40 ((o - 1) % 161)
  else if o < 1130 then HE τ (fun x => b (484 + x)) 4 (o - 484)
  else ET τ (fun x => b (1130 + x)) (o - 1130)
section XEL
variable {τ : Nat → ClassId} {b b' : Nat → Nat} {o : Nat}
theorem XE_0 : XE τ b 0 = .inr (6, [.ref (b 1), .ref (b 162), .ref (b 323), .ref (b 484), .ref (b 1130), .int 0]) := by unfold XE; rw [if_pos rfl]
theorem XE_s (h : 0 < o) (h2 : o < 484) : XE τ b o = YE τ (fun x => b (1 + 161 * ((o - 1) / 161) + x)) 12 40 ((o - 1) % 161) := by unfold XE; rw [if_neg (by omega), if_pos h2]
theorem XE_h (h : 483 < o) (h2 : o < 1130) : XE τ b o = HE τ (fun x => b (484 + x)) 4 (o - 484) := by unfold XE; rw [if_neg (by omega), if_neg (by omega), if_pos h2]
theorem XE_t (h : 1129 < o) : XE τ b o = ET τ (fun x => b (1130 + x)) (o - 1130) := by unfold XE; rw [if_neg (by omega), if_neg (by omega), if_neg (by omega)]
theorem HE_all (hb : ∀ k, k < 646 → b' k = b k) (ho : o < 646) : HE τ b' 4 o = HE τ b 4 o := by
  by_cases h0 : o = 0
  · rw [h0, HE_0, HE_0, hb 1 (by omega)]
  · by_cases h1 : o = 1
    · rw [h1, HE_1, HE_1]
      refine rfs_cg (fun p => ?_)
      by_cases q : p < 4
      · rw [if_pos q, if_pos q, hb _ (by omega)]
      · rw [if_neg q, if_neg q]
    · rw [HE_s (by omega), HE_s (by omega)]
      exact YE_all (fun x hx => hb _ (by omega)) (by omega)
theorem ET_all (hb : ∀ k, k < 4 → b' k = b k) : ET τ b' o = ET τ b o := by
  unfold ET
  split
  · rw [hb 1 (by omega), hb 2 (by omega), hb 3 (by omega)]
  · rfl
  · rfl
theorem xe_all {h : Nat} {b1 b2 b3 b4 b5 : Nat → Nat} : (((([(h, (.inr (6, [.ref (b1 0), .ref (b2 0), .ref (b3 0), .ref (b4 0), .ref (b5 0), .int 0]) : va_E))] ++ gW 161 b1 (YE τ b1 12 40)) ++ gW 161 b2 (YE τ b2 12 40)) ++ gW 161 b3 (YE τ b3 12 40)) ++ gW 646 b4 (HE τ b4 4)) ++ gW 4 b5 (ET τ b5) = gW 1134 (bap 1130 (bap 484 (bap 323 (bap 162 (bap 1 (fun _ => h) b1) b2) b3) b4) b5) (XE τ (bap 1130 (bap 484 (bap 323 (bap 162 (bap 1 (fun _ => h) b1) b2) b3) b4) b5)) := by
  rw [show ([(h, (.inr (6, [.ref (b1 0), .ref (b2 0), .ref (b3 0), .ref (b4 0), .ref (b5 0), .int 0]) : va_E))] : va_W) = gW 1 (fun _ => h) (fun _ => .inr (6, [.ref (b1 0), .ref (b2 0), .ref (b3 0), .ref (b4 0), .ref (b5 0), .int 0])) from rfl]
  rw [gW_app, gW_app, gW_app, gW_app, gW_app]
  obtain ⟨B, hB⟩ : ∃ B, B = bap 1130 (bap 484 (bap 323 (bap 162 (bap 1 (fun _ => h) b1) b2) b3) b4) b5 := ⟨_, rfl⟩
  have B1 : ∀ x, x < 161 → B (1 + x) = b1 x := fun x hx => by rw [hB, bap_lt (by omega), bap_lt (by omega), bap_lt (by omega), bap_lt (by omega), bap_ge]
  have B2 : ∀ x, x < 161 → B (162 + x) = b2 x := fun x hx => by rw [hB, bap_lt (by omega), bap_lt (by omega), bap_lt (by omega), bap_ge]
  have B3 : ∀ x, x < 161 → B (323 + x) = b3 x := fun x hx => by rw [hB, bap_lt (by omega), bap_lt (by omega), bap_ge]
  have B4 : ∀ x, x < 646 → B (484 + x) = b4 x := fun x hx => by rw [hB, bap_lt (by omega), bap_ge]
  have B5 : ∀ x, B (1130 + x) = b5 x := fun x => by rw [hB, bap_ge]
  rw [← hB]
  refine gW_cg (fun k hk => ⟨by rw [hB]; rfl, ?_⟩)
  by_cases k0 : k = 0
  · rw [if_pos (by omega), if_pos (by omega), if_pos (by omega), if_pos (by omega), if_pos (by omega), k0, XE_0, B1 0 (by omega), B2 0 (by omega), B3 0 (by omega), B4 0 (by omega), B5 0]
  · by_cases k1 : k < 162
    · rw [if_pos (by omega), if_pos (by omega), if_pos (by omega), if_pos (by omega), if_neg (by omega), XE_s (by omega) (by omega), show (k - 1) / 161 = 0 by omega, show (k - 1) % 161 = k - 1 by omega]
      exact (YE_all (fun x hx => B1 x hx) (by omega)).symm
    · by_cases k2 : k < 323
      · rw [if_pos (by omega), if_pos (by omega), if_pos (by omega), if_neg (by omega), XE_s (by omega) (by omega), show (k - 1) / 161 = 1 by omega, show (k - 1) % 161 = k - (1 + 161) by omega]
        exact (YE_all (fun x hx => B2 x hx) (by omega)).symm
      · by_cases k3 : k < 484
        · rw [if_pos (by omega), if_pos (by omega), if_neg (by omega), XE_s (by omega) (by omega), show (k - 1) / 161 = 2 by omega, show (k - 1) % 161 = k - (1 + 161 + 161) by omega]
          exact (YE_all (fun x hx => B3 x hx) (by omega)).symm
        · by_cases k4 : k < 1130
          · rw [if_pos (by omega), if_neg (by omega), XE_h (by omega) (by omega), show k - 484 = k - (1 + 161 + 161 + 161) by omega]
            exact (HE_all (fun x hx => B4 x hx) (by omega)).symm
          · rw [if_neg (by omega), XE_t (by omega), show k - 1130 = k - (1 + 161 + 161 + 161 + 646) by omega]
            exact (ET_all (fun x hx => B5 x)).symm
end XEL
set_option maxHeartbeats 4000000 in
set_option maxRecDepth 100000 in
/-- RentedMoments() -/
theorem c_X6_init (l : Launch) {D : va_G} {τ : Nat → ClassId} (h : Nat) : kNc l yX6_init cX6_init 1 { frames := 4, cells := 1133, slots := 10596, locals := 74 } D τ h (.inr (6, [.null, .null, .null, .null, .null, .int 0])) 1134 (XE τ) := by
  refine kNet (own := RX6) (by decide) rfl rfl (Nat.le_of_ble_eq_true rfl) ?_
  intro p9 e9 s9 m9 args9 below9 meth9 c9 Q9 A X hao hx hb hin hA hP hD hS hret ls hl
  refine lv_aload_n hx hb dX6_init_0 rfl (lv_at hl 0 rfl) ?_
  refine bobj X ⟨kWs_of 15 (by decide +kernel) rfl, kWs_of 16 (by decide +kernel) rfl, kWs_of 17 (by decide +kernel) rfl⟩ hl.1 dX6_init_1 ⟨Nat.le_of_ble_eq_true rfl, Nat.le_of_ble_eq_true rfl⟩ ?_
  refine lv_aload_n hx hb dX6_init_4 rfl (lv_at hl 0 rfl) ?_
  refine bnew X hP hD hS hA (ci := 4) (T := TX4) rfl inK4 tyX4 tyX4_ok ⟨kWs_of 18 (by decide +kernel) rfl, kWs_of 19 (by decide +kernel) rfl, mw_X4_init.2.2⟩ [.null, .null, .null, .int 0, .int 0, .int 0, .int 0, .int 0, .int 0, .int 0, .null] (fun j hj => by rcases (show j = 0 ∨ j = 1 ∨ j = 2 ∨ j = 3 ∨ j = 4 ∨ j = 5 ∨ j = 6 ∨ j = 7 ∨ j = 8 ∨ j = 9 ∨ j = 10 by omega) with rfl | rfl | rfl | rfl | rfl | rfl | rfl | rfl | rfl | rfl | rfl <;> rfl) (by dsimp only; omega) (by dsimp only; omega) dX6_init_5 (fun q1 H hP hD hS => ?_)
  refine lv_dup hx hb dX6_init_8 rfl ?_
  refine bcall X hao hP hD hS hA (c_X4_init l q1) ⟨(kWs_of 20 (by decide +kernel) rfl), mw_X4_init.2.1, mw_X4_init.2.2, mw_X4_init.1⟩ ⟨rfl, by decide, by decide, by decide +kernel⟩ ⟨Nat.le_of_ble_eq_true rfl, Nat.le_of_ble_eq_true rfl⟩ (Nat.le_of_ble_eq_true rfl) hl.1 ⟨by dsimp only; omega, by dsimp only; omega⟩ dX6_init_9 (fun b1 H locs hb10 hP hD hS => ?_)
  rw [← hb10]
  refine bputF X hP hD hS 0 (ci := 6) (T := TX6) rfl rfl g_X6_12 (kWs_of 223 (by decide +kernel) rfl) rfl rfl hin rfl rfl (Nat.le_of_ble_eq_true rfl) dX6_init_12 (fun H locs hP hD hS => ?_)
  have hP : va_P D vwCl (([(h, (.inr (6, [.ref (b1 0), .null, .null, .null, .null, .int 0]) : va_E))]) ++ gW 161 b1 (YE τ b1 12 40)) H := hP
  have hD : va_D A (([(h, (.inr (6, [.ref (b1 0), .null, .null, .null, .null, .int 0]) : va_E))]) ++ gW 161 b1 (YE τ b1 12 40)) := hD
  refine lv_aload_n hx hb dX6_init_15 rfl (lv_at hl 0 rfl) ?_
  refine bnew X hP hD hS hA (ci := 4) (T := TX4) rfl inK4 tyX4 tyX4_ok ⟨kWs_of 18 (by decide +kernel) rfl, kWs_of 19 (by decide +kernel) rfl, mw_X4_init.2.2⟩ [.null, .null, .null, .int 0, .int 0, .int 0, .int 0, .int 0, .int 0, .int 0, .null] (fun j hj => by rcases (show j = 0 ∨ j = 1 ∨ j = 2 ∨ j = 3 ∨ j = 4 ∨ j = 5 ∨ j = 6 ∨ j = 7 ∨ j = 8 ∨ j = 9 ∨ j = 10 by omega) with rfl | rfl | rfl | rfl | rfl | rfl | rfl | rfl | rfl | rfl | rfl <;> rfl) (by dsimp only; omega) (by dsimp only; omega) dX6_init_16 (fun q2 H hP hD hS => ?_)
  refine lv_dup hx hb dX6_init_19 rfl ?_
  refine bcall X hao hP hD hS hA (c_X4_init l q2) ⟨(kWs_of 20 (by decide +kernel) rfl), mw_X4_init.2.1, mw_X4_init.2.2, mw_X4_init.1⟩ ⟨rfl, by decide, by decide, by decide +kernel⟩ ⟨Nat.le_of_ble_eq_true rfl, Nat.le_of_ble_eq_true rfl⟩ (Nat.le_of_ble_eq_true rfl) hl.1 ⟨by dsimp only; omega, by dsimp only; omega⟩ dX6_init_20 (fun b2 H locs hb20 hP hD hS => ?_)
  rw [← hb20]
  refine bputF X hP hD hS 0 (ci := 6) (T := TX6) rfl rfl g_X6_16 (kWs_of 224 (by decide +kernel) rfl) rfl rfl hin rfl rfl (Nat.le_of_ble_eq_true rfl) dX6_init_23 (fun H locs hP hD hS => ?_)
  have hP : va_P D vwCl ((([(h, (.inr (6, [.ref (b1 0), .ref (b2 0), .null, .null, .null, .int 0]) : va_E))]) ++ gW 161 b1 (YE τ b1 12 40)) ++ gW 161 b2 (YE τ b2 12 40)) H := hP
  have hD : va_D A ((([(h, (.inr (6, [.ref (b1 0), .ref (b2 0), .null, .null, .null, .int 0]) : va_E))]) ++ gW 161 b1 (YE τ b1 12 40)) ++ gW 161 b2 (YE τ b2 12 40)) := hD
  refine lv_aload_n hx hb dX6_init_26 rfl (lv_at hl 0 rfl) ?_
  refine bnew X hP hD hS hA (ci := 4) (T := TX4) rfl inK4 tyX4 tyX4_ok ⟨kWs_of 18 (by decide +kernel) rfl, kWs_of 19 (by decide +kernel) rfl, mw_X4_init.2.2⟩ [.null, .null, .null, .int 0, .int 0, .int 0, .int 0, .int 0, .int 0, .int 0, .null] (fun j hj => by rcases (show j = 0 ∨ j = 1 ∨ j = 2 ∨ j = 3 ∨ j = 4 ∨ j = 5 ∨ j = 6 ∨ j = 7 ∨ j = 8 ∨ j = 9 ∨ j = 10 by omega) with rfl | rfl | rfl | rfl | rfl | rfl | rfl | rfl | rfl | rfl | rfl <;> rfl) (by dsimp only; omega) (by dsimp only; omega) dX6_init_27 (fun q3 H hP hD hS => ?_)
  refine lv_dup hx hb dX6_init_30 rfl ?_
  refine bcall X hao hP hD hS hA (c_X4_init l q3) ⟨(kWs_of 20 (by decide +kernel) rfl), mw_X4_init.2.1, mw_X4_init.2.2, mw_X4_init.1⟩ ⟨rfl, by decide, by decide, by decide +kernel⟩ ⟨Nat.le_of_ble_eq_true rfl, Nat.le_of_ble_eq_true rfl⟩ (Nat.le_of_ble_eq_true rfl) hl.1 ⟨by dsimp only; omega, by dsimp only; omega⟩ dX6_init_31 (fun b3 H locs hb30 hP hD hS => ?_)
  rw [← hb30]
  refine bputF X hP hD hS 0 (ci := 6) (T := TX6) rfl rfl g_X6_19 (kWs_of 225 (by decide +kernel) rfl) rfl rfl hin rfl rfl (Nat.le_of_ble_eq_true rfl) dX6_init_34 (fun H locs hP hD hS => ?_)
  have hP : va_P D vwCl (((([(h, (.inr (6, [.ref (b1 0), .ref (b2 0), .ref (b3 0), .null, .null, .int 0]) : va_E))]) ++ gW 161 b1 (YE τ b1 12 40)) ++ gW 161 b2 (YE τ b2 12 40)) ++ gW 161 b3 (YE τ b3 12 40)) H := hP
  have hD : va_D A (((([(h, (.inr (6, [.ref (b1 0), .ref (b2 0), .ref (b3 0), .null, .null, .int 0]) : va_E))]) ++ gW 161 b1 (YE τ b1 12 40)) ++ gW 161 b2 (YE τ b2 12 40)) ++ gW 161 b3 (YE τ b3 12 40)) := hD
  refine lv_aload_n hx hb dX6_init_37 rfl (lv_at hl 0 rfl) ?_
  refine bnew X hP hD hS hA (ci := 2) (T := TX2) rfl inK2 tyX2 tyX2_ok ⟨kWs_of 184 (by decide +kernel) rfl, kWs_of 185 (by decide +kernel) rfl, mw_X2_init.2.2⟩ [.null, .int 0] (fun j hj => by rcases (show j = 0 ∨ j = 1 by omega) with rfl | rfl <;> rfl) (by dsimp only; omega) (by dsimp only; omega) dX6_init_38 (fun q4 H hP hD hS => ?_)
  refine lv_dup hx hb dX6_init_41 rfl ?_
  refine bcall X hao hP hD hS hA (c_X2_init l q4) ⟨(kWs_of 186 (by decide +kernel) rfl), mw_X2_init.2.1, mw_X2_init.2.2, mw_X2_init.1⟩ ⟨rfl, by decide, by decide, by decide +kernel⟩ ⟨Nat.le_of_ble_eq_true rfl, Nat.le_of_ble_eq_true rfl⟩ (Nat.le_of_ble_eq_true rfl) hl.1 ⟨by dsimp only; omega, by dsimp only; omega⟩ dX6_init_42 (fun b4 H locs hb40 hP hD hS => ?_)
  rw [← hb40]
  refine bputF X hP hD hS 0 (ci := 6) (T := TX6) rfl rfl g_X6_25 (kWs_of 226 (by decide +kernel) rfl) rfl rfl hin rfl rfl (Nat.le_of_ble_eq_true rfl) dX6_init_45 (fun H locs hP hD hS => ?_)
  have hP : va_P D vwCl ((((([(h, (.inr (6, [.ref (b1 0), .ref (b2 0), .ref (b3 0), .ref (b4 0), .null, .int 0]) : va_E))]) ++ gW 161 b1 (YE τ b1 12 40)) ++ gW 161 b2 (YE τ b2 12 40)) ++ gW 161 b3 (YE τ b3 12 40)) ++ gW 646 b4 (HE τ b4 4)) H := hP
  have hD : va_D A ((((([(h, (.inr (6, [.ref (b1 0), .ref (b2 0), .ref (b3 0), .ref (b4 0), .null, .int 0]) : va_E))]) ++ gW 161 b1 (YE τ b1 12 40)) ++ gW 161 b2 (YE τ b2 12 40)) ++ gW 161 b3 (YE τ b3 12 40)) ++ gW 646 b4 (HE τ b4 4)) := hD
  refine lv_aload_n hx hb dX6_init_48 rfl (lv_at hl 0 rfl) ?_
  refine bnew X hP hD hS hA (ci := 5) (T := TX5) rfl inK5 tyX5 tyX5_ok ⟨kWs_of 201 (by decide +kernel) rfl, kWs_of 202 (by decide +kernel) rfl, mw_X5_init.2.2⟩ [.null, .int 0, .null, .null, .int 0] (fun j hj => by rcases (show j = 0 ∨ j = 1 ∨ j = 2 ∨ j = 3 ∨ j = 4 by omega) with rfl | rfl | rfl | rfl | rfl <;> rfl) (by dsimp only; omega) (by dsimp only; omega) dX6_init_49 (fun q5 H hP hD hS => ?_)
  refine lv_dup hx hb dX6_init_52 rfl ?_
  refine bcallN X hao hP hD hS hA (c_X5_init l q5) ⟨List.mem_of_getElem? (i := 51) rfl, mw_X5_init.2.1, mw_X5_init.2.2, mw_X5_init.1⟩ ⟨rfl, by decide, by decide, by decide +kernel⟩ ⟨Nat.le_of_ble_eq_true rfl, Nat.le_of_ble_eq_true rfl⟩ (Nat.le_of_ble_eq_true rfl) hl.1 ⟨by dsimp only; omega, by dsimp only; omega⟩ dX6_init_53 (fun b5 H locs hb50 hP hD hS => ?_)
  rw [← hb50]
  refine bputF X hP hD hS 0 (ci := 6) (T := TX6) rfl rfl g_X6_32 (kWs_of 227 (by decide +kernel) rfl) rfl rfl hin rfl rfl (Nat.le_of_ble_eq_true rfl) dX6_init_56 (fun H locs hP hD hS => ?_)
  have hP : va_P D vwCl (((((([(h, (.inr (6, [.ref (b1 0), .ref (b2 0), .ref (b3 0), .ref (b4 0), .ref (b5 0), .int 0]) : va_E))]) ++ gW 161 b1 (YE τ b1 12 40)) ++ gW 161 b2 (YE τ b2 12 40)) ++ gW 161 b3 (YE τ b3 12 40)) ++ gW 646 b4 (HE τ b4 4)) ++ gW 4 b5 (ET τ b5)) H := hP
  have hD : va_D A (((((([(h, (.inr (6, [.ref (b1 0), .ref (b2 0), .ref (b3 0), .ref (b4 0), .ref (b5 0), .int 0]) : va_E))]) ++ gW 161 b1 (YE τ b1 12 40)) ++ gW 161 b2 (YE τ b2 12 40)) ++ gW 161 b3 (YE τ b3 12 40)) ++ gW 646 b4 (HE τ b4 4)) ++ gW 4 b5 (ET τ b5)) := hD
  rw [xe_all] at hP hD
  exact hret _ H locs 59 ls rfl hP hD hS dX6_init_59
