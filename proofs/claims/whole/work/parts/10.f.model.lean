/-! The reference's constructor. -/
def nF (i : Nat) : Nat → Int32 := fun j => if j = 4 then nI 4 else if j = 8 then nI 12 else if 809 ≤ j ∧ (j - 809) % 3 = 0 ∧ (j - 809) / 3 < i then nI ((j - 809) / 3) else 0
theorem nF_0 : upd (upd (fun _ => (0 : Int32)) 4 (nI 4)) 8 (nI 12) = nF 0 := by
  funext j
  unfold upd nF
  by_cases h8 : j = 8
  · rw [if_pos h8, if_neg (by omega), if_pos h8]
  · rw [if_neg h8]
    by_cases h4 : j = 4
    · rw [if_pos h4, if_pos h4]
    · rw [if_neg h4, if_neg h4, if_neg h8, if_neg (by omega)]
theorem nF_s (i : Nat) : upd (nF i) (809 + 3 * i) (nI i) = nF (i + 1) := by
  funext j
  unfold upd nF
  by_cases h : j = 809 + 3 * i
  · rw [if_pos h, if_neg (by omega), if_neg (by omega), if_pos (by omega), show (j - 809) / 3 = i by omega]
  · rw [if_neg h]
    by_cases h4 : j = 4
    · rw [if_pos h4, if_pos h4]
    · rw [if_neg h4, if_neg h4]
      by_cases h8 : j = 8
      · rw [if_pos h8, if_pos h8]
      · rw [if_neg h8, if_neg h8]
        by_cases c : 809 ≤ j ∧ (j - 809) % 3 = 0 ∧ (j - 809) / 3 < i
        · rw [if_pos c, if_pos (by omega)]
        · rw [if_neg c, if_neg (by omega)]
def OE (τ : Nat → ClassId) (b : Nat → Nat) (o : Nat) : va_E := match o with
  | 0 => .inr (7, [.ref (b 1), .ref (b 2), .int 0, .int 0, .ref (b 3), .int 0, .int 0, .int 0, .int 0, .ref (b 4), .ref (b 5), .ref (b 6)])
  | 1 => .inl (τ 0, 1201, .inl (nF 12))
  | 2 => .inl (τ 0, 7206, .inl (fun _ => 0))
  | 3 => .inl (τ 0, 60, .inl (fun _ => 0))
  | 4 => .inl (τ 0, 30, .inl (fun _ => 0))
  | 5 => .inl (τ 0, 30, .inl (fun _ => 0))
  | _ => .inl (τ 0, 40, .inl (fun _ => 0))
section BIA
variable {p : Program} {l : Launch} {e : Env} {R : Room} {s : State} {m : MethodId} {args : Array Value} {below : List Frame} {meth : Method} {c : Code} {H : Heap} {locs : List Loc} {cells slots : Nat} {Q : State → Prop}
variable {cc : ByteArray} {pc : Nat} {ls : Array Slot} {rest : List Value} {D : va_G} {τ : Nat → ClassId} {own : String} {nL : Nat} {ws : va_W} {A : Nat → Prop}
theorem biast (X : kC p s m c cc nL args own D τ) (hP : va_P D vwCl ws H) (hD : va_D A ws) (hS : va_S A s.heap H locs) (q0 : Nat) {n i a : Nat} {f : Nat → Int32} {x : Int32} (ha : ws[q0]? = some (a, .inl (τ 0, n, .inl f))) (hi : i < n) (hn : n < 65536) (hdg : decode cc pc = .ok (.iastore, 1))
    (kk : ∀ (H1 : Heap) (locs1 : List Loc), va_P D vwCl (ws.set q0 (a, .inl (τ 0, n, .inl (upd f i x)))) H1 → va_D A (ws.set q0 (a, .inl (τ 0, n, .inl (upd f i x)))) → va_S A s.heap H1 locs1 → W p l e R s m args below meth c H1 locs1 cells slots Q (F0 m (pc + 1) ls rest)) : W p l e R s m args below meth c H locs cells slots Q (F0 m pc ls (.int x :: .int (nI i) :: .ref a :: rest)) := by
  obtain ⟨hx, hb, -, hown, hts, hK, hnw⟩ := X
  obtain ⟨h1, h2⟩ := nI_in32 hi hn
  refine va_iast hx hb hK hP hD hS q0 0 ha rfl h1 hdg (fun H1 locs1 g1 g2 g3 => ?_)
  rw [h2] at g1 g2
  exact kk H1 locs1 g1 g2 g3
end BIA
set_option maxHeartbeats 4000000 in
set_option maxRecDepth 100000 in
/-- RentedMomentsModel() -/
theorem c_X7_init (l : Launch) {D : va_G} {τ : Nat → ClassId} (h : Nat) : kNc l yX7_init cX7_init 2 { frames := 1, cells := 6, slots := 8567, locals := 12 } D τ h (.inr (7, [.null, .null, .int 0, .int 0, .null, .int 0, .int 0, .int 0, .int 0, .null, .null, .null])) 7 (OE τ) := by
  refine kNet (own := RX7) (by decide) rfl rfl (Nat.le_of_ble_eq_true rfl) ?_
  intro p9 e9 s9 m9 args9 below9 meth9 c9 Q9 A X hao hx hb hin hA hP hD hS hret ls hl
  refine lv_aload_n hx hb dX7_init_0 rfl (lv_at hl 0 rfl) ?_
  refine bobj X ⟨kWs_of 578 (by decide +kernel) rfl, kWs_of 18 (by decide +kernel) rfl, kWs_of 19 (by decide +kernel) rfl⟩ hl.1 dX7_init_1 ⟨Nat.le_of_ble_eq_true rfl, Nat.le_of_ble_eq_true rfl⟩ ?_
  refine lv_aload_n hx hb dX7_init_4 rfl (lv_at hl 0 rfl) ?_
  refine lv_sipush (v := nI 1201) hx hb dX7_init_5 (by decide) ?_
  refine bnewI X hP hD hS hA (kWs_of 52 (by decide +kernel) rfl) (by omega) (by dsimp only; omega) (by dsimp only; omega) dX7_init_8 (fun q1 H hP hD hS => ?_)
  refine bputF X hP hD hS 0 (ci := 7) (T := TX7) rfl rfl g_X7_7 (kWs_of 579 (by decide +kernel) rfl) rfl rfl hin rfl rfl (Nat.le_of_ble_eq_true rfl) dX7_init_10 (fun H locs hP hD hS => ?_)
  have hP : va_P D vwCl [(h, .inr (7, [.ref q1, .null, .int 0, .int 0, .null, .int 0, .int 0, .int 0, .int 0, .null, .null, .null])), (q1, .inl (τ 0, 1201, .inl (fun _ => 0)))] H := hP
  have hD : va_D A [(h, .inr (7, [.ref q1, .null, .int 0, .int 0, .null, .int 0, .int 0, .int 0, .int 0, .null, .null, .null])), (q1, .inl (τ 0, 1201, .inl (fun _ => 0)))] := hD
  refine lv_aload_n hx hb dX7_init_13 rfl (lv_at hl 0 rfl) ?_
  refine lv_sipush (v := nI 7206) hx hb dX7_init_14 (by decide) ?_
  refine bnewI X hP hD hS hA (kWs_of 52 (by decide +kernel) rfl) (by omega) (by dsimp only; omega) (by dsimp only; omega) dX7_init_17 (fun q2 H hP hD hS => ?_)
  refine bputF X hP hD hS 0 (ci := 7) (T := TX7) rfl rfl g_X7_13 (kWs_of 580 (by decide +kernel) rfl) rfl rfl hin rfl rfl (Nat.le_of_ble_eq_true rfl) dX7_init_19 (fun H locs hP hD hS => ?_)
  have hP : va_P D vwCl [(h, .inr (7, [.ref q1, .ref q2, .int 0, .int 0, .null, .int 0, .int 0, .int 0, .int 0, .null, .null, .null])), (q1, .inl (τ 0, 1201, .inl (fun _ => 0))), (q2, .inl (τ 0, 7206, .inl (fun _ => 0)))] H := hP
  have hD : va_D A [(h, .inr (7, [.ref q1, .ref q2, .int 0, .int 0, .null, .int 0, .int 0, .int 0, .int 0, .null, .null, .null])), (q1, .inl (τ 0, 1201, .inl (fun _ => 0))), (q2, .inl (τ 0, 7206, .inl (fun _ => 0)))] := hD
  refine lv_aload_n hx hb dX7_init_22 rfl (lv_at hl 0 rfl) ?_
  refine lv_bipush (v := nI 60) hx hb dX7_init_23 (by decide) ?_
  refine bnewI X hP hD hS hA (kWs_of 52 (by decide +kernel) rfl) (by omega) (by dsimp only; omega) (by dsimp only; omega) dX7_init_25 (fun q3 H hP hD hS => ?_)
  refine bputF X hP hD hS 0 (ci := 7) (T := TX7) rfl rfl g_X7_16 (kWs_of 583 (by decide +kernel) rfl) rfl rfl hin rfl rfl (Nat.le_of_ble_eq_true rfl) dX7_init_27 (fun H locs hP hD hS => ?_)
  have hP : va_P D vwCl [(h, .inr (7, [.ref q1, .ref q2, .int 0, .int 0, .ref q3, .int 0, .int 0, .int 0, .int 0, .null, .null, .null])), (q1, .inl (τ 0, 1201, .inl (fun _ => 0))), (q2, .inl (τ 0, 7206, .inl (fun _ => 0))), (q3, .inl (τ 0, 60, .inl (fun _ => 0)))] H := hP
  have hD : va_D A [(h, .inr (7, [.ref q1, .ref q2, .int 0, .int 0, .ref q3, .int 0, .int 0, .int 0, .int 0, .null, .null, .null])), (q1, .inl (τ 0, 1201, .inl (fun _ => 0))), (q2, .inl (τ 0, 7206, .inl (fun _ => 0))), (q3, .inl (τ 0, 60, .inl (fun _ => 0)))] := hD
  refine lv_aload_n hx hb dX7_init_30 rfl (lv_at hl 0 rfl) ?_
  refine lv_bipush (v := nI 30) hx hb dX7_init_31 (by decide) ?_
  refine bnewI X hP hD hS hA (kWs_of 52 (by decide +kernel) rfl) (by omega) (by dsimp only; omega) (by dsimp only; omega) dX7_init_33 (fun q4 H hP hD hS => ?_)
  refine bputF X hP hD hS 0 (ci := 7) (T := TX7) rfl rfl g_X7_19 (kWs_of 588 (by decide +kernel) rfl) rfl rfl hin rfl rfl (Nat.le_of_ble_eq_true rfl) dX7_init_35 (fun H locs hP hD hS => ?_)
  have hP : va_P D vwCl [(h, .inr (7, [.ref q1, .ref q2, .int 0, .int 0, .ref q3, .int 0, .int 0, .int 0, .int 0, .ref q4, .null, .null])), (q1, .inl (τ 0, 1201, .inl (fun _ => 0))), (q2, .inl (τ 0, 7206, .inl (fun _ => 0))), (q3, .inl (τ 0, 60, .inl (fun _ => 0))), (q4, .inl (τ 0, 30, .inl (fun _ => 0)))] H := hP
  have hD : va_D A [(h, .inr (7, [.ref q1, .ref q2, .int 0, .int 0, .ref q3, .int 0, .int 0, .int 0, .int 0, .ref q4, .null, .null])), (q1, .inl (τ 0, 1201, .inl (fun _ => 0))), (q2, .inl (τ 0, 7206, .inl (fun _ => 0))), (q3, .inl (τ 0, 60, .inl (fun _ => 0))), (q4, .inl (τ 0, 30, .inl (fun _ => 0)))] := hD
  refine lv_aload_n hx hb dX7_init_38 rfl (lv_at hl 0 rfl) ?_
  refine lv_bipush (v := nI 30) hx hb dX7_init_39 (by decide) ?_
  refine bnewI X hP hD hS hA (kWs_of 52 (by decide +kernel) rfl) (by omega) (by dsimp only; omega) (by dsimp only; omega) dX7_init_41 (fun q5 H hP hD hS => ?_)
  refine bputF X hP hD hS 0 (ci := 7) (T := TX7) rfl rfl g_X7_22 (kWs_of 589 (by decide +kernel) rfl) rfl rfl hin rfl rfl (Nat.le_of_ble_eq_true rfl) dX7_init_43 (fun H locs hP hD hS => ?_)
  have hP : va_P D vwCl [(h, .inr (7, [.ref q1, .ref q2, .int 0, .int 0, .ref q3, .int 0, .int 0, .int 0, .int 0, .ref q4, .ref q5, .null])), (q1, .inl (τ 0, 1201, .inl (fun _ => 0))), (q2, .inl (τ 0, 7206, .inl (fun _ => 0))), (q3, .inl (τ 0, 60, .inl (fun _ => 0))), (q4, .inl (τ 0, 30, .inl (fun _ => 0))), (q5, .inl (τ 0, 30, .inl (fun _ => 0)))] H := hP
  have hD : va_D A [(h, .inr (7, [.ref q1, .ref q2, .int 0, .int 0, .ref q3, .int 0, .int 0, .int 0, .int 0, .ref q4, .ref q5, .null])), (q1, .inl (τ 0, 1201, .inl (fun _ => 0))), (q2, .inl (τ 0, 7206, .inl (fun _ => 0))), (q3, .inl (τ 0, 60, .inl (fun _ => 0))), (q4, .inl (τ 0, 30, .inl (fun _ => 0))), (q5, .inl (τ 0, 30, .inl (fun _ => 0)))] := hD
  refine lv_aload_n hx hb dX7_init_46 rfl (lv_at hl 0 rfl) ?_
  refine lv_bipush (v := nI 40) hx hb dX7_init_47 (by decide) ?_
  refine bnewI X hP hD hS hA (kWs_of 52 (by decide +kernel) rfl) (by omega) (by dsimp only; omega) (by dsimp only; omega) dX7_init_49 (fun q6 H hP hD hS => ?_)
  refine bputF X hP hD hS 0 (ci := 7) (T := TX7) rfl rfl g_X7_25 (kWs_of 590 (by decide +kernel) rfl) rfl rfl hin rfl rfl (Nat.le_of_ble_eq_true rfl) dX7_init_51 (fun H locs hP hD hS => ?_)
  have hP : va_P D vwCl [(h, .inr (7, [.ref q1, .ref q2, .int 0, .int 0, .ref q3, .int 0, .int 0, .int 0, .int 0, .ref q4, .ref q5, .ref q6])), (q1, .inl (τ 0, 1201, .inl (fun _ => 0))), (q2, .inl (τ 0, 7206, .inl (fun _ => 0))), (q3, .inl (τ 0, 60, .inl (fun _ => 0))), (q4, .inl (τ 0, 30, .inl (fun _ => 0))), (q5, .inl (τ 0, 30, .inl (fun _ => 0))), (q6, .inl (τ 0, 40, .inl (fun _ => 0)))] H := hP
  have hD : va_D A [(h, .inr (7, [.ref q1, .ref q2, .int 0, .int 0, .ref q3, .int 0, .int 0, .int 0, .int 0, .ref q4, .ref q5, .ref q6])), (q1, .inl (τ 0, 1201, .inl (fun _ => 0))), (q2, .inl (τ 0, 7206, .inl (fun _ => 0))), (q3, .inl (τ 0, 60, .inl (fun _ => 0))), (q4, .inl (τ 0, 30, .inl (fun _ => 0))), (q5, .inl (τ 0, 30, .inl (fun _ => 0))), (q6, .inl (τ 0, 40, .inl (fun _ => 0)))] := hD
  refine lv_aload_n hx hb dX7_init_54 rfl (lv_at hl 0 rfl) ?_
  refine bget X hP 0 (a := h) (ci := 7) (T := TX7) (v := .ref q1) rfl rfl g_X7_7 (kWs_of 579 (by decide +kernel) rfl) rfl dX7_init_55 ?_
  refine lv_iconst (v := nI 4) hx hb dX7_init_58 (by decide) ?_
  refine lv_iconst (v := nI 4) hx hb dX7_init_59 (by decide) ?_
  refine biast X hP hD hS 1 (i := 4) rfl (by omega) (by omega) dX7_init_60 (fun H locs hP hD hS => ?_)
  have hP : va_P D vwCl [(h, .inr (7, [.ref q1, .ref q2, .int 0, .int 0, .ref q3, .int 0, .int 0, .int 0, .int 0, .ref q4, .ref q5, .ref q6])), (q1, .inl (τ 0, 1201, .inl (upd (fun _ => 0) 4 (nI 4)))), (q2, .inl (τ 0, 7206, .inl (fun _ => 0))), (q3, .inl (τ 0, 60, .inl (fun _ => 0))), (q4, .inl (τ 0, 30, .inl (fun _ => 0))), (q5, .inl (τ 0, 30, .inl (fun _ => 0))), (q6, .inl (τ 0, 40, .inl (fun _ => 0)))] H := hP
  have hD : va_D A [(h, .inr (7, [.ref q1, .ref q2, .int 0, .int 0, .ref q3, .int 0, .int 0, .int 0, .int 0, .ref q4, .ref q5, .ref q6])), (q1, .inl (τ 0, 1201, .inl (upd (fun _ => 0) 4 (nI 4)))), (q2, .inl (τ 0, 7206, .inl (fun _ => 0))), (q3, .inl (τ 0, 60, .inl (fun _ => 0))), (q4, .inl (τ 0, 30, .inl (fun _ => 0))), (q5, .inl (τ 0, 30, .inl (fun _ => 0))), (q6, .inl (τ 0, 40, .inl (fun _ => 0)))] := hD
  refine lv_aload_n hx hb dX7_init_61 rfl (lv_at hl 0 rfl) ?_
  refine bget X hP 0 (a := h) (ci := 7) (T := TX7) (v := .ref q1) rfl rfl g_X7_7 (kWs_of 579 (by decide +kernel) rfl) rfl dX7_init_62 ?_
  refine lv_bipush (v := nI 8) hx hb dX7_init_65 (by decide) ?_
  refine lv_bipush (v := nI 12) hx hb dX7_init_67 (by decide) ?_
  refine biast X hP hD hS 1 (i := 8) rfl (by omega) (by omega) dX7_init_69 (fun H locs hP hD hS => ?_)
  have hP : va_P D vwCl [(h, .inr (7, [.ref q1, .ref q2, .int 0, .int 0, .ref q3, .int 0, .int 0, .int 0, .int 0, .ref q4, .ref q5, .ref q6])), (q1, .inl (τ 0, 1201, .inl (upd (upd (fun _ => 0) 4 (nI 4)) 8 (nI 12)))), (q2, .inl (τ 0, 7206, .inl (fun _ => 0))), (q3, .inl (τ 0, 60, .inl (fun _ => 0))), (q4, .inl (τ 0, 30, .inl (fun _ => 0))), (q5, .inl (τ 0, 30, .inl (fun _ => 0))), (q6, .inl (τ 0, 40, .inl (fun _ => 0)))] H := hP
  have hD : va_D A [(h, .inr (7, [.ref q1, .ref q2, .int 0, .int 0, .ref q3, .int 0, .int 0, .int 0, .int 0, .ref q4, .ref q5, .ref q6])), (q1, .inl (τ 0, 1201, .inl (upd (upd (fun _ => 0) 4 (nI 4)) 8 (nI 12)))), (q2, .inl (τ 0, 7206, .inl (fun _ => 0))), (q3, .inl (τ 0, 60, .inl (fun _ => 0))), (q4, .inl (τ 0, 30, .inl (fun _ => 0))), (q5, .inl (τ 0, 30, .inl (fun _ => 0))), (q6, .inl (τ 0, 40, .inl (fun _ => 0)))] := hD
  rw [nF_0] at hP hD
  refine lv_iconst (v := nI 0) hx hb dX7_init_70 (by decide) ?_
  refine kist hx hb dX7_init_71 rfl hl (by decide) (kp_1_1 rfl) (fun ls hl => ?_)
  have lp : ∀ (d : Nat) (i : Nat) (H : Heap) (locs : List Loc) (ls : Array Slot), 12 - i < d → i ≤ 12 → va_P D vwCl [(h, .inr (7, [.ref q1, .ref q2, .int 0, .int 0, .ref q3, .int 0, .int 0, .int 0, .int 0, .ref q4, .ref q5, .ref q6])), (q1, .inl (τ 0, 1201, .inl (nF i))), (q2, .inl (τ 0, 7206, .inl (fun _ => 0))), (q3, .inl (τ 0, 60, .inl (fun _ => 0))), (q4, .inl (τ 0, 30, .inl (fun _ => 0))), (q5, .inl (τ 0, 30, .inl (fun _ => 0))), (q6, .inl (τ 0, 40, .inl (fun _ => 0)))] H → va_D A [(h, .inr (7, [.ref q1, .ref q2, .int 0, .int 0, .ref q3, .int 0, .int 0, .int 0, .int 0, .ref q4, .ref q5, .ref q6])), (q1, .inl (τ 0, 1201, .inl (nF i))), (q2, .inl (τ 0, 7206, .inl (fun _ => 0))), (q3, .inl (τ 0, 60, .inl (fun _ => 0))), (q4, .inl (τ 0, 30, .inl (fun _ => 0))), (q5, .inl (τ 0, 30, .inl (fun _ => 0))), (q6, .inl (τ 0, 40, .inl (fun _ => 0)))] → va_S A s9.heap H locs → lv_has ls 2 [(0, .ref h), (1, .int (nI i))] → W p9 l e9 { frames := 1, cells := 6, slots := 8567, locals := 12 } s9 m9 args9 below9 meth9 c9 H locs 6 8567 Q9 (F0 m9 72 ls []) := by
    intro d
    induction d with
    | zero => intro i H locs ls hd; omega
    | succ d ih =>
      intro i H locs ls hd hi12 hP hD hS hl
      refine lv_iload_n hx hb dX7_init_72 rfl (lv_at hl 1 rfl) ?_
      refine lv_bipush (v := nI 12) hx hb dX7_init_73 (by decide) ?_
      refine kic_ge (tgt := 99) hx hb dX7_init_75 (by decide) (by with_reducible rfl) (by with_reducible rfl) (by omega) (by omega) (fun c_75 => ?_) (fun c_75 => ?_)
      · have er : i = 12 := by omega
        subst er
        exact hret (nth [h, q1, q2, q3, q4, q5, q6]) H locs 99 ls rfl hP hD hS dX7_init_99
      · refine lv_aload_n hx hb dX7_init_78 rfl (lv_at hl 0 rfl) ?_
        refine bget X hP 0 (a := h) (ci := 7) (T := TX7) (v := .ref q1) rfl rfl g_X7_7 (kWs_of 579 (by decide +kernel) rfl) rfl dX7_init_79 ?_
        refine lv_sipush (v := nI 809) hx hb dX7_init_82 (by decide) ?_
        refine lv_iconst (v := nI 3) hx hb dX7_init_85 (by decide) ?_
        refine lv_iload_n hx hb dX7_init_86 rfl (lv_at hl 1 rfl) ?_
        refine kmul hx hb dX7_init_87 rfl rfl ?_
        refine kadd hx hb dX7_init_88 rfl rfl ?_
        refine lv_iconst (v := nI 0) hx hb dX7_init_89 (by decide) ?_
        refine kadd hx hb dX7_init_90 rfl rfl ?_
        refine lv_iload_n hx hb dX7_init_91 rfl (lv_at hl 1 rfl) ?_
        refine biast X hP hD hS 1 (i := 809 + 3 * i + 0) rfl (by omega) (by omega) dX7_init_92 (fun H locs hP hD hS => ?_)
        have hP : va_P D vwCl [(h, .inr (7, [.ref q1, .ref q2, .int 0, .int 0, .ref q3, .int 0, .int 0, .int 0, .int 0, .ref q4, .ref q5, .ref q6])), (q1, .inl (τ 0, 1201, .inl (upd (nF i) (809 + 3 * i) (nI i)))), (q2, .inl (τ 0, 7206, .inl (fun _ => 0))), (q3, .inl (τ 0, 60, .inl (fun _ => 0))), (q4, .inl (τ 0, 30, .inl (fun _ => 0))), (q5, .inl (τ 0, 30, .inl (fun _ => 0))), (q6, .inl (τ 0, 40, .inl (fun _ => 0)))] H := hP
        have hD : va_D A [(h, .inr (7, [.ref q1, .ref q2, .int 0, .int 0, .ref q3, .int 0, .int 0, .int 0, .int 0, .ref q4, .ref q5, .ref q6])), (q1, .inl (τ 0, 1201, .inl (upd (nF i) (809 + 3 * i) (nI i)))), (q2, .inl (τ 0, 7206, .inl (fun _ => 0))), (q3, .inl (τ 0, 60, .inl (fun _ => 0))), (q4, .inl (τ 0, 30, .inl (fun _ => 0))), (q5, .inl (τ 0, 30, .inl (fun _ => 0))), (q6, .inl (τ 0, 40, .inl (fun _ => 0)))] := hD
        rw [nF_s] at hP hD
        refine kinc (q := 1) hx hb dX7_init_93 hl rfl (by decide) (kp_2_1 rfl) (fun ls hl => ?_)
        refine lv_goto (tgt := 72) hx hb dX7_init_96 (by decide) ?_
        exact ih (i + 1) _ _ _ (by omega) (by omega) hP hD hS hl
  exact lp 13 0 H _ ls (by omega) (by omega) hP hD hS hl
