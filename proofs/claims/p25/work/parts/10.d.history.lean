/-! A history's constructor. -/
def HE (τ : Nat → ClassId) (b : Nat → Nat) (i : Nat) (o : Nat) : va_E :=
  if o = 0 then .inr (2, [.ref (b 1), .int 0])
  else if o = 1 then rfs (τ 5) 4 (fun p => if p < i then some (b (2 + 161 * p)) else none)
  else YE τ (fun x => b (2 + 161 * ((o - 2) / 161) + x)) 12 40 ((o - 2) % 161)
section HEL
variable {τ : Nat → ClassId} {b b' : Nat → Nat} {i o : Nat}
theorem HE_0 : HE τ b i 0 = .inr (2, [.ref (b 1), .int 0]) := by unfold HE; rw [if_pos rfl]
theorem HE_1 : HE τ b i 1 = rfs (τ 5) 4 (fun p => if p < i then some (b (2 + 161 * p)) else none) := by unfold HE; rw [if_neg (by omega), if_pos rfl]
theorem HE_s (h : 1 < o) : HE τ b i o = YE τ (fun x => b (2 + 161 * ((o - 2) / 161) + x)) 12 40 ((o - 2) % 161) := by unfold HE; rw [if_neg (by omega), if_neg (by omega)]
/-- a whole state, seen from another list of places -/
theorem YE_all (hb : ∀ k, k < 161 → b' k = b k) (ho : o < 161) : YE τ b' 12 40 o = YE τ b 12 40 o := YE_cg (K := 161) hb (by omega) (fun p hp => by omega) (fun p hp => by omega) ho (fun _ _ _ => by omega) (fun _ _ => by omega) (fun _ => rfl) (fun _ => rfl)
theorem he_step {q : Nat} (h0 : b' 0 = q) : (gW (2 + 161 * i) b (HE τ b i) ++ gW 161 b' (YE τ b' 12 40)).set 1 (b 1, rfs (τ 5) 4 (va_up (fun p => if p < i then some (b (2 + 161 * p)) else none) i (some q))) = gW (2 + 161 * (i + 1)) (bap (2 + 161 * i) b b') (HE τ (bap (2 + 161 * i) b b') (i + 1)) := by
  rw [gW_app]
  have e1 : b 1 = (fun k => if k < 2 + 161 * i then b k else b' (k - (2 + 161 * i))) 1 := (if_pos (by omega)).symm
  rw [e1, gW_set (by omega)]
  refine gW_cg (fun k hk => ⟨rfl, ?_⟩)
  by_cases k1 : k = 1
  · rw [if_pos k1, k1, HE_1]
    refine rfs_cg (fun p => ?_)
    unfold va_up
    by_cases z : p = i
    · rw [if_pos z, if_pos (by omega), z, ← h0]; exact congrArg some (bap_ge 0).symm
    · rw [if_neg z]
      dsimp only
      by_cases z2 : p < i
      · rw [if_pos z2, if_pos (by omega), bap_lt (by omega)]
      · rw [if_neg z2, if_neg (by omega)]
  · rw [if_neg k1]
    by_cases k2 : k < 2 + 161 * i
    · rw [if_pos k2]
      by_cases k0 : k = 0
      · rw [k0, HE_0, HE_0, bap_lt (by omega)]
      · rw [HE_s (by omega), HE_s (by omega)]
        exact (YE_all (fun x hx => bap_lt (by omega)) (by omega)).symm
    · rw [if_neg k2, HE_s (by omega), show (k - 2) % 161 = k - (2 + 161 * i) by omega, show (k - 2) / 161 = i by omega]
      exact (YE_all (fun x hx => bap_ge x) (by omega)).symm
end HEL
set_option maxHeartbeats 4000000 in
set_option maxRecDepth 100000 in
/-- History() -/
theorem c_X2_init (l : Launch) {D : va_G} {τ : Nat → ClassId} (h : Nat) : kNc l yX2_init cX2_init 2 { frames := 3, cells := 645, slots := 6000, locals := 53 } D τ h (.inr (2, [.null, .int 0])) 646 (fun b => HE τ b 4) := by
  refine kNet (own := RX2) (by decide) rfl rfl (Nat.le_of_ble_eq_true rfl) ?_
  intro p9 e9 s9 m9 args9 below9 meth9 c9 Q9 A X hao hx hb hin hA hP hD hS hret ls hl
  refine lv_aload_n hx hb dX2_init_0 rfl (lv_at hl 0 rfl) ?_
  refine bobj X ⟨kWs_of 189 (by decide +kernel) rfl, kWs_of 16 (by decide +kernel) rfl, kWs_of 17 (by decide +kernel) rfl⟩ hl.1 dX2_init_1 ⟨Nat.le_of_ble_eq_true rfl, Nat.le_of_ble_eq_true rfl⟩ ?_
  refine lv_aload_n hx hb dX2_init_4 rfl (lv_at hl 0 rfl) ?_
  refine lv_iconst (v := nI 4) hx hb dX2_init_5 (by decide) ?_
  refine bnewQ X hP hD hS hA (t := 5) rfl hao.2.2.2 (kWs_of 190 (by decide +kernel) rfl) (by omega) (by dsimp only; omega) (by dsimp only; omega) dX2_init_6 (fun q1 H hP hD hS => ?_)
  refine bputF X hP hD hS 0 (ci := 2) (T := TX2) rfl rfl g_X2_11 (kWs_of 193 (by decide +kernel) rfl) rfl rfl hin rfl rfl (Nat.le_of_ble_eq_true rfl) dX2_init_9 (fun H locs hP hD hS => ?_)
  have hP : va_P D vwCl [(h, .inr (2, [.ref q1, .int 0])), (q1, rfs (τ 5) 4 (fun _ => none))] H := hP
  have hD : va_D A [(h, .inr (2, [.ref q1, .int 0])), (q1, rfs (τ 5) 4 (fun _ => none))] := hD
  have e2 : gW 2 (nth [h, q1]) (HE τ (nth [h, q1]) 0) = [(h, .inr (2, [.ref q1, .int 0])), (q1, rfs (τ 5) 4 (fun _ => none))] := by
    show [(_, HE τ _ 0 0), (_, HE τ _ 0 1)] = _
    rw [HE_0, HE_1]
    simp only [Nat.not_lt_zero, if_false]
    rfl
  rw [← e2] at hP hD
  have hb00 : nth [h, q1] 0 = h := rfl
  generalize nth [h, q1] = b at hP hD hb00
  refine W.widen (k := 1) (n := 4) (by omega) (by omega) ?_
  refine lv_iconst (v := nI 0) hx hb dX2_init_12 (by decide) ?_
  refine kist hx hb dX2_init_13 rfl hl (by decide) (kp_1_1 rfl) (fun ls hl => ?_)
  have lp : ∀ (d : Nat) (i : Nat) (b : Nat → Nat) (H : Heap) (locs : List Loc) (ls : Array Slot), 4 - i < d → i ≤ 4 → b 0 = h → va_P D vwCl (gW (2 + 161 * i) b (HE τ b i)) H → va_D A (gW (2 + 161 * i) b (HE τ b i)) → va_S A s9.heap H locs → lv_has ls 2 [(0, .ref h), (1, .int (nI i))] → W p9 l e9 { frames := 3, cells := 645, slots := 6000, locals := 53 } s9 m9 args9 below9 meth9 c9 H locs (1 + 161 * i) (4 + 1499 * i) Q9 (F0 m9 14 ls []) := by
    intro d
    induction d with
    | zero => intro i b H locs ls hd; omega
    | succ d ih =>
      intro i b H locs ls hd hi4 hb00 hP hD hS hl
      refine lv_iload_n hx hb dX2_init_14 rfl (lv_at hl 1 rfl) ?_
      refine lv_iconst (v := nI 4) hx hb dX2_init_15 (by decide) ?_
      refine kic_ge (tgt := 38) hx hb dX2_init_16 (by decide) (by with_reducible rfl) (by with_reducible rfl) (by omega) (by omega) (fun c_16 => ?_) (fun c_16 => ?_)
      · have er : i = 4 := by omega
        subst er
        exact hret b H locs 38 ls hb00 hP hD hS dX2_init_38
      · refine lv_aload_n hx hb dX2_init_19 rfl (lv_at hl 0 rfl) ?_
        refine bget X hP 0 (a := h) (ci := 2) (T := TX2) (v := .ref (b 1)) ((gW_get (by omega)).trans (by rw [HE_0, hb00])) rfl g_X2_11 (kWs_of 193 (by decide +kernel) rfl) rfl dX2_init_20 ?_
        refine lv_iload_n hx hb dX2_init_23 rfl (lv_at hl 1 rfl) ?_
        refine bnew X hP hD hS hA (ci := 4) (T := TX4) rfl inK4 tyX4 tyX4_ok ⟨kWs_of 190 (by decide +kernel) rfl, kWs_of 19 (by decide +kernel) rfl, mw_X4_init.2.2⟩ [.null, .null, .null, .int 0, .int 0, .int 0, .int 0, .int 0, .int 0, .int 0, .null] (fun j hj => by rcases (show j = 0 ∨ j = 1 ∨ j = 2 ∨ j = 3 ∨ j = 4 ∨ j = 5 ∨ j = 6 ∨ j = 7 ∨ j = 8 ∨ j = 9 ∨ j = 10 by omega) with rfl | rfl | rfl | rfl | rfl | rfl | rfl | rfl | rfl | rfl | rfl <;> rfl) (by dsimp only; omega) (by dsimp only; omega) dX2_init_24 (fun q5 H hP hD hS => ?_)
        refine lv_dup hx hb dX2_init_27 rfl ?_
        refine bcall X hao hP hD hS hA (c_X4_init l q5) ⟨(kWs_of 192 (by decide +kernel) rfl), mw_X4_init.2.1, mw_X4_init.2.2, mw_X4_init.1⟩ ⟨rfl, by decide, by decide, by decide +kernel⟩ ⟨Nat.le_of_ble_eq_true rfl, Nat.le_of_ble_eq_true rfl⟩ (Nat.le_of_ble_eq_true rfl) hl.1 ⟨by dsimp only; omega, by dsimp only; omega⟩ dX2_init_28 (fun b5 H locs hb0 hP hD hS => ?_)
        refine bast X hP hD hS 1 (2 + 161 * i) (a := b 1) (v := q5) (ci := 4) (C := RX4) (T := TX4) (t := 5) (n := 4) (i := i) (by rw [List.getElem?_append_left (by rw [gW_len]; omega), gW_get (by omega), HE_1]) rfl (by rw [List.getElem?_append_right (by rw [gW_len]; omega), gW_len, Nat.sub_self, gW_get (by omega), YE_0, hb0]) rfl c_16 (by omega) dX2_init_31 (fun H locs hP hD hS => ?_)
        rw [he_step hb0] at hP hD
        refine kinc (q := 1) hx hb dX2_init_32 hl rfl (by decide) (kp_2_1 rfl) (fun ls hl => ?_)
        refine lv_goto (tgt := 14) hx hb dX2_init_35 (by decide) ?_
        refine W.widen (k := 1 + 161 * (i + 1)) (n := 4 + 1499 * (i + 1)) (by dsimp only; omega) (by dsimp only; omega) ?_
        exact ih (i + 1) _ _ _ _ (by omega) (by omega) (by rw [bap_lt (by omega)]; exact hb00) hP hD hS hl
  exact lp 5 0 b H _ ls (by omega) (by omega) hb00 hP hD hS hl
