
theorem and_1 {x : Int32} : x &&& nI 1 = nI 1 ↔ ¬ (x &&& nI 1 = 0) := by
  constructor
  · intro h q; rw [h] at q; exact absurd q (by decide)
  · intro h
    obtain ⟨j, h1, h2⟩ := pk_andE x (m := nI 1) 1 (by decide)
    rw [h2] at h ⊢
    rcases (show j = 0 ∨ j = 1 by omega) with rfl | rfl
    · exact absurd rfl h
    · rfl
/-- the reference's table of versions: the row with the greatest moment that is not greater than y -/
def vaS (N : Nat → Int32) (x y : Int32) : Nat → Nat × Int32
  | 0 => (0, -1)
  | v + 1 => if N (809 + 3 * v + 0) = x ∧ N (809 + 3 * v + 1) ≤ y ∧ (vaS N x y v).2 < N (809 + 3 * v + 1) then (v, N (809 + 3 * v + 1)) else vaS N x y v
theorem vaS_le (N : Nat → Int32) (x y : Int32) (W : Nat) : (vaS N x y W).1 ≤ W := by
  induction W with
  | zero => exact Nat.le_refl _
  | succ W ih =>
    rw [vaS]
    split
    · exact Nat.le_succ _
    · omega
theorem vaS_lt (N : Nat → Int32) (x y : Int32) (W : Nat) (h : 0 < W) : (vaS N x y W).1 < W := by
  induction W with
  | zero => omega
  | succ W ih =>
    rw [vaS]
    split
    · exact Nat.lt_succ_self _
    · have := vaS_le N x y W; omega
theorem vaS_p {N : Nat → Int32} {x y : Int32} {v a : Nat} {b : Int32} (h : (a, b) = vaS N x y v) (h1 : N (809 + 3 * v + 0) = x) (h2 : N (809 + 3 * v + 1) ≤ y) (h3 : b < N (809 + 3 * v + 1)) : (v, N (809 + 3 * v + 1)) = vaS N x y (v + 1) := by
  rw [vaS, ← h, if_pos ⟨h1, h2, h3⟩]
theorem vaS_z {N : Nat → Int32} {x y : Int32} {v a : Nat} {b : Int32} (h : (a, b) = vaS N x y v) (h1 : ¬ (N (809 + 3 * v + 0) = x ∧ N (809 + 3 * v + 1) ≤ y ∧ b < N (809 + 3 * v + 1))) : (a, b) = vaS N x y (v + 1) := by
  rw [vaS, ← h, if_neg h1]
def vA (N : Nat → Int32) (W : Nat) (x y : Int32) : Nat := (vaS N x y W).1
theorem vA_lt {N : Nat → Int32} {W : Nat} {x y : Int32} (h : 0 < W) : vA N W x y < W := vaS_lt N x y W h
/-- who sees, of the reference -/
abbrev seM (N : Nat → Int32) (W r v : Nat) : Prop := N (9 + 20 * r + 2) = 0 ∧ vA N W (N (809 + 3 * v + 0)) (N (9 + 20 * r + 0)) = v
def sbM (N : Nat → Int32) (W v : Nat) (w : Int32) : Nat → Nat := fun r => if seM N W r v ∧ (¬ w = 0 ∨ ¬ 0 < N (9 + 20 * r + 5)) then 1 else 0
def reM (N : Nat → Int32) (W n v : Nat) : Int32 := if nI (cn (sbM N W v (nI 0)) n) = 0 then nI 0 else (N 4 + nI (cn (sbM N W v (nI 0)) n) - nI 1) / nI (cn (sbM N W v (nI 0)) n)
abbrev olM (N : Nat → Int32) (W v : Nat) : Prop := vA N W (N (809 + 3 * v + 0)) (N 0) ≠ v
def duM (N : Nat → Int32) (W n r : Nat) : Nat → Int32 := fun v => if olM N W v ∧ seM N W r v then reM N W n v else nI 0
def dueM (N : Nat → Int32) (W n r : Nat) : Int32 := if N (9 + 20 * r + 2) = 0 ∧ ¬ 0 < N (9 + 20 * r + 5) then sm (duM N W n r) W else nI 0
abbrev skM (a b c d : Int32) : Prop := ¬ (b &&& c = 0) ∧ ¬ (d &&& a = 0) ∧ a &&& c = 0
def ssM (N : Nat → Int32) (r : Nat) : Nat → Nat := fun c => if (N (9 + 20 * r + 0) < N (1001 + 5 * c + 2) ∧ N (1001 + 5 * c + 1) < N 0 + nI 1) ∧ skM (N (9 + 20 * r + 4)) (N (9 + 20 * r + 3)) (N (1001 + 5 * c + 3)) (N (1001 + 5 * c + 4)) then 1 else 0
def swM (N : Nat → Int32) (q : Nat) : Nat → Nat := fun c => if (N (1001 + 5 * q + 1) < N (1001 + 5 * c + 2) ∧ N (1001 + 5 * c + 1) < N (1001 + 5 * q + 2)) ∧ skM (N (1001 + 5 * q + 3)) (N (1001 + 5 * q + 4)) (N (1001 + 5 * c + 3)) (N (1001 + 5 * c + 4)) then 1 else 0
def cfM (N : Nat → Int32) (W r : Nat) : Nat → Nat := fun c => if hw (N (9 + 20 * r + 4)) c ∧ N (9 + 20 * r + 0) < N (809 + 3 * vA N W (nI c) (N 0) + 1) then 1 else 0
set_option maxHeartbeats 4000000 in
set_option maxRecDepth 100000 in
theorem c_X7_isIn (l : Launch) {D : va_G} {τ : Nat → ClassId} {ad : Nat → Nat} (hI : kInj ad) {G : Nat → Nat → Int32} {x a b : Int32} : kM l yX7_isIn cX7_isIn 3 (some .boolean) { frames := 0, cells := 0, slots := 0, locals := 0 } D τ ad [.int x, .int a, .int b] G (fun v G' => v = (if a ≤ x ∧ x ≤ b then 1 else 0) ∧ G' = G) := by
  refine kMetZ (own := RX7) (by decide) rfl (Nat.le_of_ble_eq_true rfl) ?_
  intro p9 e9 s9 m9 args9 below9 meth9 c9 Q9 X hx hb hP hS hret ls hl
  have hPs := hP
  have hl : lv_has ls 3 [(0, .int x), (1, .int a), (2, .int b)] := hl
  refine lv_iload_n hx hb dX7_isIn_0 rfl (lv_at hl 0 rfl) ?_
  refine lv_iload_n hx hb dX7_isIn_1 rfl (lv_at hl 1 rfl) ?_
  first
    | refine kic_lt (tgt := 14) hx hb dX7_isIn_2 (by decide) (by with_reducible rfl) (by with_reducible rfl) (by omega) (by omega) (fun c_2 => ?_) (fun c_2 => ?_)
    | refine lv_icmp_lt (tgt := 14) hx hb dX7_isIn_2 (by decide) (fun c_2 => ?_) (fun c_2 => ?_)
  · skip
    refine lv_iconst (v := nI 0) hx hb dX7_isIn_14 (by decide) ?_
    exact hret _ _ _ _ _ _ (by decide) (⟨(if_neg (fun z => Int32.not_le.mpr c_2 z.1)).symm, rfl⟩) hP hS dX7_isIn_15
  · skip
    refine lv_iload_n hx hb dX7_isIn_5 rfl (lv_at hl 0 rfl) ?_
    refine lv_iload_n hx hb dX7_isIn_6 rfl (lv_at hl 2 rfl) ?_
    first
      | refine kic_gt (tgt := 14) hx hb dX7_isIn_7 (by decide) (by with_reducible rfl) (by with_reducible rfl) (by omega) (by omega) (fun c_7 => ?_) (fun c_7 => ?_)
      | refine lv_icmp_gt (tgt := 14) hx hb dX7_isIn_7 (by decide) (fun c_7 => ?_) (fun c_7 => ?_)
    · skip
      refine lv_iconst (v := nI 0) hx hb dX7_isIn_14 (by decide) ?_
      exact hret _ _ _ _ _ _ (by decide) (⟨(if_neg (fun z => Int32.not_le.mpr c_7 z.2)).symm, rfl⟩) hP hS dX7_isIn_15
    · skip
      refine lv_iconst (v := nI 1) hx hb dX7_isIn_10 (by decide) ?_
      refine lv_goto (tgt := 15) hx hb dX7_isIn_11 (by decide) ?_
      exact hret _ _ _ _ _ _ (by decide) (⟨(if_pos ⟨Int32.not_lt.mp c_2, Int32.not_lt.mp c_7⟩).symm, rfl⟩) hP hS dX7_isIn_15

set_option maxHeartbeats 4000000 in
set_option maxRecDepth 100000 in
theorem c_X7_has (l : Launch) {D : va_G} {τ : Nat → ClassId} {ad : Nat → Nat} (hI : kInj ad) {G : Nat → Nat → Int32} {x : Int32} {k : Nat} : kM l yX7_has cX7_has 2 (some .boolean) { frames := 0, cells := 0, slots := 0, locals := 0 } D τ ad [.int x, .int (nI k)] G (fun v G' => v = (if hw x k then 1 else 0) ∧ G' = G) := by
  refine kMetZ (own := RX7) (by decide) rfl (Nat.le_of_ble_eq_true rfl) ?_
  intro p9 e9 s9 m9 args9 below9 meth9 c9 Q9 X hx hb hP hS hret ls hl
  have hPs := hP
  have hl : lv_has ls 2 [(0, .int x), (1, .int (nI k))] := hl
  refine lv_iload_n hx hb dX7_has_0 rfl (lv_at hl 0 rfl) ?_
  refine lv_iload_n hx hb dX7_has_1 rfl (lv_at hl 1 rfl) ?_
  refine lv_ishr hx hb dX7_has_2 ?_
  refine lv_iconst (v := nI 1) hx hb dX7_has_3 (by decide) ?_
  refine lv_iand hx hb dX7_has_4 ?_
  refine lv_iconst (v := nI 1) hx hb dX7_has_5 (by decide) ?_
  first
    | refine kic_ne (tgt := 13) hx hb dX7_has_6 (by decide) (by with_reducible rfl) (by with_reducible rfl) (by omega) (by omega) (fun c_6 => ?_) (fun c_6 => ?_)
    | refine lv_icmp_ne (tgt := 13) hx hb dX7_has_6 (by decide) (fun c_6 => ?_) (fun c_6 => ?_)
  · skip
    refine lv_iconst (v := nI 0) hx hb dX7_has_13 (by decide) ?_
    exact hret _ _ _ _ _ _ (by decide) (⟨(if_neg (fun z => c_6 (and_1.mpr z))).symm, rfl⟩) hP hS dX7_has_14
  · skip
    refine lv_iconst (v := nI 1) hx hb dX7_has_9 (by decide) ?_
    refine lv_goto (tgt := 14) hx hb dX7_has_10 (by decide) ?_
    exact hret _ _ _ _ _ _ (by decide) (⟨(if_pos (and_1.mp c_6)).symm, rfl⟩) hP hS dX7_has_14

set_option maxHeartbeats 4000000 in
set_option maxRecDepth 100000 in
theorem c_X7_ones (l : Launch) {D : va_G} {τ : Nat → ClassId} {ad : Nat → Nat} (hI : kInj ad) {G : Nat → Nat → Int32} {y : Int32} : kM l yX7_ones cX7_ones 3 (some .int) { frames := 0, cells := 0, slots := 0, locals := 0 } D τ ad [.int y] G (fun v G' => v = sm (fun k => y >>> (nI k &&& 31) &&& nI 1) 12 ∧ G' = G) := by
  refine kMet (own := RX7) (by decide) rfl (Nat.le_of_ble_eq_true rfl) ?_
  intro p9 e9 s9 m9 args9 below9 meth9 c9 Q9 X hx hb hP hS hret ls hl
  have hPs := hP
  have hl : lv_has ls 3 [(0, .int y)] := hl
  refine lv_iconst (v := nI 0) hx hb dX7_ones_0 (by decide) ?_
  refine kist hx hb dX7_ones_1 rfl hl (by decide) (kp_1_1 rfl) (fun ls hl => ?_)
  refine lv_iconst (v := nI 0) hx hb dX7_ones_2 (by decide) ?_
  refine kist hx hb dX7_ones_3 rfl hl (by decide) (kp_2_2 rfl) (fun ls hl => ?_)
  have lp_4 : ∀ (d : Nat) (i : Nat) (x : Int32) (H : Heap) (locs : List Loc) (ls : Array Slot), (12 - i) < d → (i ≤ 12) → (x = sm (fun k => y >>> (nI k &&& 31) &&& nI 1) i) → va_P D vwCl (kW τ ad G) H → va_S (kAd ad) s9.heap H locs → lv_has ls 3 [(0, .int y), (1, .int x), (2, .int (nI i))] → W p9 l e9 { frames := 0, cells := 0, slots := 0, locals := 0 } s9 m9 args9 below9 meth9 c9 H locs 0 0 Q9 (F0 m9 4 ls []) := by
    intro d
    induction d with
    | zero => exact fun _ _ _ _ _ hd => absurd hd (Nat.not_lt_zero _)
    | succ d ih_4 =>
      intro i x H locs ls hd iv_0 iv_1 hP hS hl
      refine lv_iload_n hx hb dX7_ones_4 rfl (lv_at hl 2 rfl) ?_
      refine lv_bipush (v := nI 12) hx hb dX7_ones_5 (by decide) ?_
      first
        | refine kic_ge (tgt := 24) hx hb dX7_ones_7 (by decide) (by with_reducible rfl) (by with_reducible rfl) (by omega) (by omega) (fun c_7 => ?_) (fun c_7 => ?_)
        | refine lv_icmp_ge (tgt := 24) hx hb dX7_ones_7 (by decide) (fun c_7 => ?_) (fun c_7 => ?_)
      · skip
        refine lv_iload_n hx hb dX7_ones_24 rfl (lv_at hl 1 rfl) ?_
        exact hret _ _ _ _ _ _ (⟨iv_1.trans (by rw [show i = 12 by omega]), rfl⟩) hP hS dX7_ones_25
      · skip
        refine lv_iload_n hx hb dX7_ones_10 rfl (lv_at hl 1 rfl) ?_
        refine lv_iload_n hx hb dX7_ones_11 rfl (lv_at hl 0 rfl) ?_
        refine lv_iload_n hx hb dX7_ones_12 rfl (lv_at hl 2 rfl) ?_
        refine lv_ishr hx hb dX7_ones_13 ?_
        refine lv_iconst (v := nI 1) hx hb dX7_ones_14 (by decide) ?_
        refine lv_iand hx hb dX7_ones_15 ?_
        first
          | refine kadd hx hb dX7_ones_16 (by with_reducible rfl) (by with_reducible rfl) ?_
          | refine lv_iadd hx hb dX7_ones_16 ?_
        refine kist hx hb dX7_ones_17 rfl hl (by decide) (kp_3_1 rfl) (fun ls hl => ?_)
        first
          | refine kinc (q := 2) hx hb dX7_ones_18 hl rfl (by decide) (kp_3_2 rfl) (fun ls hl => ?_)
          | refine kincG (q := 2) hx hb dX7_ones_18 hl rfl (by decide) (kp_3_2 rfl) (fun ls hl => ?_)
        refine lv_goto (tgt := 4) hx hb dX7_ones_21 (by decide) ?_
        exact ih_4 _ _ _ _ _ (by omega) (by omega) (by rw [iv_1]; rfl) hP hS (lv_sub hl [0,1,2] rfl)
  exact lp_4 _ 0 0 _ _ _ (Nat.lt_succ_self _) (Nat.zero_le _) (rfl) hP hS (lv_sub hl [0,1,2] rfl)

set_option maxHeartbeats 4000000 in
set_option maxRecDepth 100000 in
theorem c_X7_ofR (l : Launch) {D : va_G} {τ : Nat → ClassId} {ad : Nat → Nat} (hI : kInj ad) {G : Nat → Nat → Int32} {r w : Nat} (hr : 9 + 20 * r + w < 1201) : kM l yX7_ofR cX7_ofR 3 (some .int) { frames := 0, cells := 0, slots := 0, locals := 0 } D τ ad [.ref (ad 0), .int (nI r), .int (nI w)] G (fun v G' => v = G 1 (9 + 20 * r + w) ∧ G' = G) := by
  refine kMet (own := RX7) (by decide) rfl (Nat.le_of_ble_eq_true rfl) ?_
  intro p9 e9 s9 m9 args9 below9 meth9 c9 Q9 X hx hb hP hS hret ls hl
  have hPs := hP
  have hl : lv_has ls 3 [(0, .ref (ad 0)), (1, .int (nI r)), (2, .int (nI w))] := hl
  refine lv_aload_n hx hb dX7_ofR_0 rfl (lv_at hl 0 rfl) ?_
  refine kget X hP oJ g_X7_7 rfl dX7_ofR_1 ?_
  refine lv_bipush (v := nI 9) hx hb dX7_ofR_4 (by decide) ?_
  refine lv_bipush (v := nI 20) hx hb dX7_ofR_6 (by decide) ?_
  refine lv_iload_n hx hb dX7_ofR_8 rfl (lv_at hl 1 rfl) ?_
  first
    | refine kmul hx hb dX7_ofR_9 (by with_reducible rfl) (by with_reducible rfl) ?_
    | refine lv_imul hx hb dX7_ofR_9 ?_
  first
    | refine kadd hx hb dX7_ofR_10 (by with_reducible rfl) (by with_reducible rfl) ?_
    | refine lv_iadd hx hb dX7_ofR_10 ?_
  refine lv_iload_n hx hb dX7_ofR_11 rfl (lv_at hl 2 rfl) ?_
  first
    | refine kadd hx hb dX7_ofR_12 (by with_reducible rfl) (by with_reducible rfl) ?_
    | refine lv_iadd hx hb dX7_ofR_12 ?_
  refine kiald X hP aJ1 hr dX7_ofR_13 ?_
  exact hret _ _ _ _ _ _ (⟨rfl, rfl⟩) hP hS dX7_ofR_14

set_option maxHeartbeats 4000000 in
set_option maxRecDepth 100000 in
theorem c_X7_setsR (l : Launch) {D : va_G} {τ : Nat → ClassId} {ad : Nat → Nat} (hI : kInj ad) {G : Nat → Nat → Int32} {r w : Nat} {x : Int32} (hr : 9 + 20 * r + w < 1201) : kMv l yX7_setsR cX7_setsR 4 { frames := 0, cells := 0, slots := 0, locals := 0 } D τ ad [.ref (ad 0), .int (nI r), .int (nI w), .int x] G (fun G' => G' = gs G 1 (9 + 20 * r + w) x) := by
  refine kMetV (own := RX7) (by decide) rfl (Nat.le_of_ble_eq_true rfl) ?_
  intro p9 e9 s9 m9 args9 below9 meth9 c9 Q9 X hx hb hP hS hret ls hl
  have hPs := hP
  have hl : lv_has ls 4 [(0, .ref (ad 0)), (1, .int (nI r)), (2, .int (nI w)), (3, .int x)] := hl
  refine lv_aload_n hx hb dX7_setsR_0 rfl (lv_at hl 0 rfl) ?_
  refine kget X hP oJ g_X7_7 rfl dX7_setsR_1 ?_
  refine lv_bipush (v := nI 9) hx hb dX7_setsR_4 (by decide) ?_
  refine lv_bipush (v := nI 20) hx hb dX7_setsR_6 (by decide) ?_
  refine lv_iload_n hx hb dX7_setsR_8 rfl (lv_at hl 1 rfl) ?_
  first
    | refine kmul hx hb dX7_setsR_9 (by with_reducible rfl) (by with_reducible rfl) ?_
    | refine lv_imul hx hb dX7_setsR_9 ?_
  first
    | refine kadd hx hb dX7_setsR_10 (by with_reducible rfl) (by with_reducible rfl) ?_
    | refine lv_iadd hx hb dX7_setsR_10 ?_
  refine lv_iload_n hx hb dX7_setsR_11 rfl (lv_at hl 2 rfl) ?_
  first
    | refine kadd hx hb dX7_setsR_12 (by with_reducible rfl) (by with_reducible rfl) ?_
    | refine lv_iadd hx hb dX7_setsR_12 ?_
  refine lv_iload_n hx hb dX7_setsR_13 rfl (lv_at hl 3 rfl) ?_
  refine kiast X hI hP hS aJ1 hr dX7_setsR_14 (fun H locs hP hS => ?_)
  exact hret _ _ _ _ _ (rfl) hP hS dX7_setsR_15

set_option maxHeartbeats 4000000 in
set_option maxRecDepth 100000 in
theorem c_X7_ofV (l : Launch) {D : va_G} {τ : Nat → ClassId} {ad : Nat → Nat} (hI : kInj ad) {G : Nat → Nat → Int32} {r w : Nat} (hr : 809 + 3 * r + w < 1201) : kM l yX7_ofV cX7_ofV 3 (some .int) { frames := 0, cells := 0, slots := 0, locals := 0 } D τ ad [.ref (ad 0), .int (nI r), .int (nI w)] G (fun v G' => v = G 1 (809 + 3 * r + w) ∧ G' = G) := by
  refine kMet (own := RX7) (by decide) rfl (Nat.le_of_ble_eq_true rfl) ?_
  intro p9 e9 s9 m9 args9 below9 meth9 c9 Q9 X hx hb hP hS hret ls hl
  have hPs := hP
  have hl : lv_has ls 3 [(0, .ref (ad 0)), (1, .int (nI r)), (2, .int (nI w))] := hl
  refine lv_aload_n hx hb dX7_ofV_0 rfl (lv_at hl 0 rfl) ?_
  refine kget X hP oJ g_X7_7 rfl dX7_ofV_1 ?_
  refine lv_sipush (v := nI 809) hx hb dX7_ofV_4 (by decide) ?_
  refine lv_iconst (v := nI 3) hx hb dX7_ofV_7 (by decide) ?_
  refine lv_iload_n hx hb dX7_ofV_8 rfl (lv_at hl 1 rfl) ?_
  first
    | refine kmul hx hb dX7_ofV_9 (by with_reducible rfl) (by with_reducible rfl) ?_
    | refine lv_imul hx hb dX7_ofV_9 ?_
  first
    | refine kadd hx hb dX7_ofV_10 (by with_reducible rfl) (by with_reducible rfl) ?_
    | refine lv_iadd hx hb dX7_ofV_10 ?_
  refine lv_iload_n hx hb dX7_ofV_11 rfl (lv_at hl 2 rfl) ?_
  first
    | refine kadd hx hb dX7_ofV_12 (by with_reducible rfl) (by with_reducible rfl) ?_
    | refine lv_iadd hx hb dX7_ofV_12 ?_
  refine kiald X hP aJ1 hr dX7_ofV_13 ?_
  exact hret _ _ _ _ _ _ (⟨rfl, rfl⟩) hP hS dX7_ofV_14

set_option maxHeartbeats 4000000 in
set_option maxRecDepth 100000 in
theorem c_X7_ofC (l : Launch) {D : va_G} {τ : Nat → ClassId} {ad : Nat → Nat} (hI : kInj ad) {G : Nat → Nat → Int32} {r w : Nat} (hr : 1001 + 5 * r + w < 1201) : kM l yX7_ofC cX7_ofC 3 (some .int) { frames := 0, cells := 0, slots := 0, locals := 0 } D τ ad [.ref (ad 0), .int (nI r), .int (nI w)] G (fun v G' => v = G 1 (1001 + 5 * r + w) ∧ G' = G) := by
  refine kMet (own := RX7) (by decide) rfl (Nat.le_of_ble_eq_true rfl) ?_
  intro p9 e9 s9 m9 args9 below9 meth9 c9 Q9 X hx hb hP hS hret ls hl
  have hPs := hP
  have hl : lv_has ls 3 [(0, .ref (ad 0)), (1, .int (nI r)), (2, .int (nI w))] := hl
  refine lv_aload_n hx hb dX7_ofC_0 rfl (lv_at hl 0 rfl) ?_
  refine kget X hP oJ g_X7_7 rfl dX7_ofC_1 ?_
  refine lv_sipush (v := nI 1001) hx hb dX7_ofC_4 (by decide) ?_
  refine lv_iconst (v := nI 5) hx hb dX7_ofC_7 (by decide) ?_
  refine lv_iload_n hx hb dX7_ofC_8 rfl (lv_at hl 1 rfl) ?_
  first
    | refine kmul hx hb dX7_ofC_9 (by with_reducible rfl) (by with_reducible rfl) ?_
    | refine lv_imul hx hb dX7_ofC_9 ?_
  first
    | refine kadd hx hb dX7_ofC_10 (by with_reducible rfl) (by with_reducible rfl) ?_
    | refine lv_iadd hx hb dX7_ofC_10 ?_
  refine lv_iload_n hx hb dX7_ofC_11 rfl (lv_at hl 2 rfl) ?_
  first
    | refine kadd hx hb dX7_ofC_12 (by with_reducible rfl) (by with_reducible rfl) ?_
    | refine lv_iadd hx hb dX7_ofC_12 ?_
  refine kiald X hP aJ1 hr dX7_ofC_13 ?_
  exact hret _ _ _ _ _ _ (⟨rfl, rfl⟩) hP hS dX7_ofC_14

set_option maxHeartbeats 4000000 in
set_option maxRecDepth 100000 in
theorem c_X7_isCell (l : Launch) {D : va_G} {τ : Nat → ClassId} {ad : Nat → Nat} (hI : kInj ad) {G : Nat → Nat → Int32} {x : Int32} : kM l yX7_isCell cX7_isCell 1 (some .boolean) { frames := 1, cells := 0, slots := 0, locals := 22 } D τ ad [.int x] G (fun v G' => v = (if nI 0 ≤ x ∧ x ≤ nI 11 then 1 else 0) ∧ G' = G) := by
  refine kMetZ (own := RX7) (by decide) rfl (Nat.le_of_ble_eq_true rfl) ?_
  intro p9 e9 s9 m9 args9 below9 meth9 c9 Q9 X hx hb hP hS hret ls hl
  have hPs := hP
  have hl : lv_has ls 1 [(0, .int x)] := hl
  refine lv_iload_n hx hb dX7_isCell_0 rfl (lv_at hl 0 rfl) ?_
  refine lv_iconst (v := nI 0) hx hb dX7_isCell_1 (by decide) ?_
  refine lv_bipush (v := nI 11) hx hb dX7_isCell_2 (by decide) ?_
  refine kcS X hP hS (c_X7_isIn l hI) v_X7_28 ⟨Nat.le_of_ble_eq_true rfl, Nat.le_of_ble_eq_true rfl, rfl, rfl⟩ rfl rfl (Nat.le_of_ble_eq_true rfl) hl.1 ⟨Nat.zero_le _, Nat.zero_le _⟩ dX7_isCell_4 (fun r_4 G_4 H locs hR hP hS => ?_)
  obtain ⟨rfl, hG_4⟩ := hR
  rw [hG_4] at hP
  clear hG_4
  exact hret _ _ _ _ _ _ (by split <;> decide) (⟨rfl, rfl⟩) hP hS dX7_isCell_7

set_option maxHeartbeats 4000000 in
set_option maxRecDepth 100000 in
theorem c_X7_isReader (l : Launch) {D : va_G} {τ : Nat → ClassId} {ad : Nat → Nat} (hI : kInj ad) {G : Nat → Nat → Int32} {x : Int32} : kM l yX7_isReader cX7_isReader 2 (some .boolean) { frames := 1, cells := 0, slots := 0, locals := 22 } D τ ad [.ref (ad 0), .int x] G (fun v G' => v = (if nI 0 ≤ x ∧ x ≤ G 1 2 - nI 1 then 1 else 0) ∧ G' = G) := by
  refine kMetZ (own := RX7) (by decide) rfl (Nat.le_of_ble_eq_true rfl) ?_
  intro p9 e9 s9 m9 args9 below9 meth9 c9 Q9 X hx hb hP hS hret ls hl
  have hPs := hP
  have hl : lv_has ls 2 [(0, .ref (ad 0)), (1, .int x)] := hl
  refine lv_iload_n hx hb dX7_isReader_0 rfl (lv_at hl 1 rfl) ?_
  refine lv_iconst (v := nI 0) hx hb dX7_isReader_1 (by decide) ?_
  refine lv_aload_n hx hb dX7_isReader_2 rfl (lv_at hl 0 rfl) ?_
  refine kget X hP oJ g_X7_7 rfl dX7_isReader_3 ?_
  refine lv_iconst (v := nI 2) hx hb dX7_isReader_6 (by decide) ?_
  refine kiald X hP aJ1 (by omega) dX7_isReader_7 ?_
  refine lv_iconst (v := nI 1) hx hb dX7_isReader_8 (by decide) ?_
  refine lv_isub hx hb dX7_isReader_9 ?_
  refine kcS X hP hS (c_X7_isIn l hI) v_X7_28 ⟨Nat.le_of_ble_eq_true rfl, Nat.le_of_ble_eq_true rfl, rfl, rfl⟩ rfl rfl (Nat.le_of_ble_eq_true rfl) hl.1 ⟨Nat.zero_le _, Nat.zero_le _⟩ dX7_isReader_10 (fun r_10 G_10 H locs hR hP hS => ?_)
  obtain ⟨rfl, hG_10⟩ := hR
  rw [hG_10] at hP
  clear hG_10
  exact hret _ _ _ _ _ _ (by split <;> decide) (⟨rfl, rfl⟩) hP hS dX7_isReader_13

set_option maxHeartbeats 4000000 in
set_option maxRecDepth 100000 in
theorem c_X7_isOpen (l : Launch) {D : va_G} {τ : Nat → ClassId} {ad : Nat → Nat} (hI : kInj ad) {G : Nat → Nat → Int32} {r : Nat} (hr : r < 40) : kM l yX7_isOpen cX7_isOpen 2 (some .boolean) { frames := 1, cells := 0, slots := 0, locals := 22 } D τ ad [.ref (ad 0), .int (nI r)] G (fun v G' => v = (if G 1 (9 + 20 * r + 2) = 0 then 1 else 0) ∧ G' = G) := by
  refine kMetZ (own := RX7) (by decide) rfl (Nat.le_of_ble_eq_true rfl) ?_
  intro p9 e9 s9 m9 args9 below9 meth9 c9 Q9 X hx hb hP hS hret ls hl
  have hPs := hP
  have hl : lv_has ls 2 [(0, .ref (ad 0)), (1, .int (nI r))] := hl
  refine lv_aload_n hx hb dX7_isOpen_0 rfl (lv_at hl 0 rfl) ?_
  refine lv_iload_n hx hb dX7_isOpen_1 rfl (lv_at hl 1 rfl) ?_
  refine lv_iconst (v := nI 2) hx hb dX7_isOpen_2 (by decide) ?_
  refine kcV X hP hS (c_X7_ofR l hI (by first | assumption | omega)) oJ v_X7_32 ⟨Nat.le_of_ble_eq_true rfl, Nat.le_of_ble_eq_true rfl, rfl, rfl⟩ rfl rfl (Nat.le_of_ble_eq_true rfl) hl.1 ⟨Nat.zero_le _, Nat.zero_le _⟩ dX7_isOpen_3 (fun r_3 G_3 H locs hR hP hS => ?_)
  obtain ⟨rfl, hG_3⟩ := hR
  rw [hG_3] at hP
  clear hG_3
  first
    | refine kif_ne (tgt := 13) hx hb dX7_isOpen_6 (by decide) (fun c_6 => ?_) (fun c_6 => ?_)
    | refine lv_if_ne (tgt := 13) hx hb dX7_isOpen_6 (by decide) (fun c_6 => ?_) (fun c_6 => ?_)
  · skip
    refine lv_iconst (v := nI 0) hx hb dX7_isOpen_13 (by decide) ?_
    exact hret _ _ _ _ _ _ (by decide) (by refine ⟨?_, rfl⟩; first | exact (if_pos ‹_›).symm | exact (if_neg ‹_›).symm) hP hS dX7_isOpen_14
  · skip
    refine lv_iconst (v := nI 1) hx hb dX7_isOpen_9 (by decide) ?_
    refine lv_goto (tgt := 14) hx hb dX7_isOpen_10 (by decide) ?_
    exact hret _ _ _ _ _ _ (by decide) (by refine ⟨?_, rfl⟩; first | exact (if_pos ‹_›).symm | exact (if_neg ‹_›).symm) hP hS dX7_isOpen_14

set_option maxHeartbeats 4000000 in
set_option maxRecDepth 100000 in
theorem c_X7_isWidow (l : Launch) {D : va_G} {τ : Nat → ClassId} {ad : Nat → Nat} (hI : kInj ad) {G : Nat → Nat → Int32} {r : Nat} (hr : r < 40) : kM l yX7_isWidow cX7_isWidow 2 (some .boolean) { frames := 1, cells := 0, slots := 0, locals := 22 } D τ ad [.ref (ad 0), .int (nI r)] G (fun v G' => v = (if 0 < G 1 (9 + 20 * r + 5) then 1 else 0) ∧ G' = G) := by
  refine kMetZ (own := RX7) (by decide) rfl (Nat.le_of_ble_eq_true rfl) ?_
  intro p9 e9 s9 m9 args9 below9 meth9 c9 Q9 X hx hb hP hS hret ls hl
  have hPs := hP
  have hl : lv_has ls 2 [(0, .ref (ad 0)), (1, .int (nI r))] := hl
  refine lv_aload_n hx hb dX7_isWidow_0 rfl (lv_at hl 0 rfl) ?_
  refine lv_iload_n hx hb dX7_isWidow_1 rfl (lv_at hl 1 rfl) ?_
  refine lv_iconst (v := nI 5) hx hb dX7_isWidow_2 (by decide) ?_
  refine kcV X hP hS (c_X7_ofR l hI (by first | assumption | omega)) oJ v_X7_32 ⟨Nat.le_of_ble_eq_true rfl, Nat.le_of_ble_eq_true rfl, rfl, rfl⟩ rfl rfl (Nat.le_of_ble_eq_true rfl) hl.1 ⟨Nat.zero_le _, Nat.zero_le _⟩ dX7_isWidow_3 (fun r_3 G_3 H locs hR hP hS => ?_)
  obtain ⟨rfl, hG_3⟩ := hR
  rw [hG_3] at hP
  clear hG_3
  refine lv_if_le (tgt := 13) hx hb dX7_isWidow_6 (by decide) (fun c_6 => ?_) (fun c_6 => ?_)
  · skip
    refine lv_iconst (v := nI 0) hx hb dX7_isWidow_13 (by decide) ?_
    exact hret _ _ _ _ _ _ (by decide) (⟨(if_neg (Int32.not_lt.mpr c_6)).symm, rfl⟩) hP hS dX7_isWidow_14
  · skip
    refine lv_iconst (v := nI 1) hx hb dX7_isWidow_9 (by decide) ?_
    refine lv_goto (tgt := 14) hx hb dX7_isWidow_10 (by decide) ?_
    exact hret _ _ _ _ _ _ (by decide) (⟨(if_pos (Int32.not_le.mp c_6)).symm, rfl⟩) hP hS dX7_isWidow_14

set_option maxHeartbeats 4000000 in
set_option maxRecDepth 100000 in
theorem c_X7_versionAt (l : Launch) {D : va_G} {τ : Nat → ClassId} {ad : Nat → Nat} (hI : kInj ad) {G : Nat → Nat → Int32} {Wn : Nat} {x y : Int32} (hW : G 1 8 = nI Wn) (hW1 : 1 ≤ Wn) (hW6 : Wn ≤ 64) : kM l yX7_versionAt cX7_versionAt 7 (some .int) { frames := 1, cells := 0, slots := 0, locals := 22 } D τ ad [.ref (ad 0), .int x, .int y] G (fun v G' => v = nI (vA (G 1) Wn x y) ∧ G' = G) := by
  refine kMet (own := RX7) (by decide) rfl (Nat.le_of_ble_eq_true rfl) ?_
  intro p9 e9 s9 m9 args9 below9 meth9 c9 Q9 X hx hb hP hS hret ls hl
  have hPs := hP
  have hl : lv_has ls 7 [(0, .ref (ad 0)), (1, .int x), (2, .int y)] := hl
  refine lv_iconst (v := nI 0) hx hb dX7_versionAt_0 (by decide) ?_
  refine kist hx hb dX7_versionAt_1 rfl hl (by decide) (kp_3_3 rfl) (fun ls hl => ?_)
  refine lv_iconst (v := (-1)) hx hb dX7_versionAt_2 (by decide) ?_
  refine kistW hx hb dX7_versionAt_3 hl (by decide) (kp_4_4 rfl) (fun ls hl => ?_)
  refine lv_iconst (v := nI 0) hx hb dX7_versionAt_5 (by decide) ?_
  refine kistW hx hb dX7_versionAt_6 hl (by decide) (kp_5_5 rfl) (fun ls hl => ?_)
  have lp_8 : ∀ (d : Nat) (a : Nat) (b : Int32) (i : Nat) (H : Heap) (locs : List Loc) (ls : Array Slot), (Wn - i) < d → (i ≤ Wn) → ((a, b) = vaS (G 1) x y i) → va_P D vwCl (kW τ ad G) H → va_S (kAd ad) s9.heap H locs → lv_has ls 7 [(0, .ref (ad 0)), (1, .int x), (2, .int y), (3, .int (nI a)), (4, .int b), (5, .int (nI i))] → W p9 l e9 { frames := 1, cells := 0, slots := 0, locals := 22 } s9 m9 args9 below9 meth9 c9 H locs 0 0 Q9 (F0 m9 8 ls []) := by
    intro d
    induction d with
    | zero => exact fun _ _ _ _ _ _ hd => absurd hd (Nat.not_lt_zero _)
    | succ d ih_8 =>
      intro a b i H locs ls hd iv_0 iv_1 hP hS hl
      refine lv_iload hx hb dX7_versionAt_8 (lv_at hl 5 rfl) ?_
      refine lv_aload_n hx hb dX7_versionAt_10 rfl (lv_at hl 0 rfl) ?_
      refine kget X hP oJ g_X7_7 rfl dX7_versionAt_11 ?_
      refine lv_bipush (v := nI 8) hx hb dX7_versionAt_14 (by decide) ?_
      refine kiald X hP aJ1 (by omega) dX7_versionAt_16 ?_
      rw [hW]
      first
        | refine kic_ge (tgt := 98) hx hb dX7_versionAt_17 (by decide) (by with_reducible rfl) (by with_reducible rfl) (by omega) (by omega) (fun c_17 => ?_) (fun c_17 => ?_)
        | refine lv_icmp_ge (tgt := 98) hx hb dX7_versionAt_17 (by decide) (fun c_17 => ?_) (fun c_17 => ?_)
      · skip
        refine lv_iload_n hx hb dX7_versionAt_98 rfl (lv_at hl 3 rfl) ?_
        exact hret _ _ _ _ _ _ (⟨congrArg nI (show a = _ from by rw [vA, show Wn = i by omega, ← iv_1]), rfl⟩) hP hS dX7_versionAt_99
      · skip
        refine lv_aload_n hx hb dX7_versionAt_20 rfl (lv_at hl 0 rfl) ?_
        refine lv_iload hx hb dX7_versionAt_21 (lv_at hl 5 rfl) ?_
        refine lv_iconst (v := nI 0) hx hb dX7_versionAt_23 (by decide) ?_
        refine kcV X hP hS (c_X7_ofV l hI (by first | assumption | omega)) oJ v_X7_54 ⟨Nat.le_of_ble_eq_true rfl, Nat.le_of_ble_eq_true rfl, rfl, rfl⟩ rfl rfl (Nat.le_of_ble_eq_true rfl) hl.1 ⟨Nat.zero_le _, Nat.zero_le _⟩ dX7_versionAt_24 (fun r_24 G_24 H locs hR hP hS => ?_)
        obtain ⟨rfl, hG_24⟩ := hR
        rw [hG_24] at hP
        clear hG_24
        refine lv_iload_n hx hb dX7_versionAt_27 rfl (lv_at hl 1 rfl) ?_
        first
          | refine kic_ne (tgt := 58) hx hb dX7_versionAt_28 (by decide) (by with_reducible rfl) (by with_reducible rfl) (by omega) (by omega) (fun c_28 => ?_) (fun c_28 => ?_)
          | refine lv_icmp_ne (tgt := 58) hx hb dX7_versionAt_28 (by decide) (fun c_28 => ?_) (fun c_28 => ?_)
        · skip
          refine lv_iconst (v := nI 0) hx hb dX7_versionAt_58 (by decide) ?_
          refine kistW hx hb dX7_versionAt_59 hl (by decide) (kp_6_6 rfl) (fun ls hl => ?_)
          refine lv_iload hx hb dX7_versionAt_61 (lv_at hl 6 rfl) ?_
          first
            | refine kif_eq (tgt := 71) hx hb dX7_versionAt_63 (by decide) (fun c_63 => ?_) (fun c_63 => ?_)
            | refine lv_if_eq (tgt := 71) hx hb dX7_versionAt_63 (by decide) (fun c_63 => ?_) (fun c_63 => ?_)
          · skip
            refine lv_iload_n hx hb dX7_versionAt_71 rfl (lv_at hl 3 rfl) ?_
            refine kist hx hb dX7_versionAt_72 rfl hl (by decide) (kp_7_3 rfl) (fun ls hl => ?_)
            refine lv_iload hx hb dX7_versionAt_73 (lv_at hl 6 rfl) ?_
            first
              | refine kif_eq (tgt := 88) hx hb dX7_versionAt_75 (by decide) (fun c_75 => ?_) (fun c_75 => ?_)
              | refine lv_if_eq (tgt := 88) hx hb dX7_versionAt_75 (by decide) (fun c_75 => ?_) (fun c_75 => ?_)
            · skip
              refine lv_iload hx hb dX7_versionAt_88 (lv_at hl 4 rfl) ?_
              refine kistW hx hb dX7_versionAt_90 hl (by decide) (kp_7_4 rfl) (fun ls hl => ?_)
              first
                | refine kinc (q := 5) hx hb dX7_versionAt_92 hl rfl (by decide) (kp_7_5 rfl) (fun ls hl => ?_)
                | refine kincG (q := 5) hx hb dX7_versionAt_92 hl rfl (by decide) (kp_7_5 rfl) (fun ls hl => ?_)
              refine lv_goto (tgt := 8) hx hb dX7_versionAt_95 (by decide) ?_
              exact ih_8 _ _ _ _ _ _ (by omega) (by omega) (vaS_z iv_1 (fun z => c_28 z.1)) hP hS (lv_sub hl [0,1,2,3,4,5] rfl)
            · skip
              exact absurd rfl c_75
          · skip
            exact absurd rfl c_63
        · skip
          refine lv_aload_n hx hb dX7_versionAt_31 rfl (lv_at hl 0 rfl) ?_
          refine lv_iload hx hb dX7_versionAt_32 (lv_at hl 5 rfl) ?_
          refine lv_iconst (v := nI 1) hx hb dX7_versionAt_34 (by decide) ?_
          refine kcV X hP hS (c_X7_ofV l hI (by first | assumption | omega)) oJ v_X7_54 ⟨Nat.le_of_ble_eq_true rfl, Nat.le_of_ble_eq_true rfl, rfl, rfl⟩ rfl rfl (Nat.le_of_ble_eq_true rfl) hl.1 ⟨Nat.zero_le _, Nat.zero_le _⟩ dX7_versionAt_35 (fun r_35 G_35 H locs hR hP hS => ?_)
          obtain ⟨rfl, hG_35⟩ := hR
          rw [hG_35] at hP
          clear hG_35
          refine lv_iload_n hx hb dX7_versionAt_38 rfl (lv_at hl 2 rfl) ?_
          first
            | refine kic_gt (tgt := 58) hx hb dX7_versionAt_39 (by decide) (by with_reducible rfl) (by with_reducible rfl) (by omega) (by omega) (fun c_39 => ?_) (fun c_39 => ?_)
            | refine lv_icmp_gt (tgt := 58) hx hb dX7_versionAt_39 (by decide) (fun c_39 => ?_) (fun c_39 => ?_)
          · skip
            refine lv_iconst (v := nI 0) hx hb dX7_versionAt_58 (by decide) ?_
            refine kistW hx hb dX7_versionAt_59 hl (by decide) (kp_6_6 rfl) (fun ls hl => ?_)
            refine lv_iload hx hb dX7_versionAt_61 (lv_at hl 6 rfl) ?_
            first
              | refine kif_eq (tgt := 71) hx hb dX7_versionAt_63 (by decide) (fun c_63 => ?_) (fun c_63 => ?_)
              | refine lv_if_eq (tgt := 71) hx hb dX7_versionAt_63 (by decide) (fun c_63 => ?_) (fun c_63 => ?_)
            · skip
              refine lv_iload_n hx hb dX7_versionAt_71 rfl (lv_at hl 3 rfl) ?_
              refine kist hx hb dX7_versionAt_72 rfl hl (by decide) (kp_7_3 rfl) (fun ls hl => ?_)
              refine lv_iload hx hb dX7_versionAt_73 (lv_at hl 6 rfl) ?_
              first
                | refine kif_eq (tgt := 88) hx hb dX7_versionAt_75 (by decide) (fun c_75 => ?_) (fun c_75 => ?_)
                | refine lv_if_eq (tgt := 88) hx hb dX7_versionAt_75 (by decide) (fun c_75 => ?_) (fun c_75 => ?_)
              · skip
                refine lv_iload hx hb dX7_versionAt_88 (lv_at hl 4 rfl) ?_
                refine kistW hx hb dX7_versionAt_90 hl (by decide) (kp_7_4 rfl) (fun ls hl => ?_)
                first
                  | refine kinc (q := 5) hx hb dX7_versionAt_92 hl rfl (by decide) (kp_7_5 rfl) (fun ls hl => ?_)
                  | refine kincG (q := 5) hx hb dX7_versionAt_92 hl rfl (by decide) (kp_7_5 rfl) (fun ls hl => ?_)
                refine lv_goto (tgt := 8) hx hb dX7_versionAt_95 (by decide) ?_
                exact ih_8 _ _ _ _ _ _ (by omega) (by omega) (vaS_z iv_1 (fun z => Int32.not_le.mpr c_39 z.2.1)) hP hS (lv_sub hl [0,1,2,3,4,5] rfl)
              · skip
                exact absurd rfl c_75
            · skip
              exact absurd rfl c_63
          · skip
            refine lv_aload_n hx hb dX7_versionAt_42 rfl (lv_at hl 0 rfl) ?_
            refine lv_iload hx hb dX7_versionAt_43 (lv_at hl 5 rfl) ?_
            refine lv_iconst (v := nI 1) hx hb dX7_versionAt_45 (by decide) ?_
            refine kcV X hP hS (c_X7_ofV l hI (by first | assumption | omega)) oJ v_X7_54 ⟨Nat.le_of_ble_eq_true rfl, Nat.le_of_ble_eq_true rfl, rfl, rfl⟩ rfl rfl (Nat.le_of_ble_eq_true rfl) hl.1 ⟨Nat.zero_le _, Nat.zero_le _⟩ dX7_versionAt_46 (fun r_46 G_46 H locs hR hP hS => ?_)
            obtain ⟨rfl, hG_46⟩ := hR
            rw [hG_46] at hP
            clear hG_46
            refine lv_iload hx hb dX7_versionAt_49 (lv_at hl 4 rfl) ?_
            first
              | refine kic_le (tgt := 58) hx hb dX7_versionAt_51 (by decide) (by with_reducible rfl) (by with_reducible rfl) (by omega) (by omega) (fun c_51 => ?_) (fun c_51 => ?_)
              | refine lv_icmp_le (tgt := 58) hx hb dX7_versionAt_51 (by decide) (fun c_51 => ?_) (fun c_51 => ?_)
            · skip
              refine lv_iconst (v := nI 0) hx hb dX7_versionAt_58 (by decide) ?_
              refine kistW hx hb dX7_versionAt_59 hl (by decide) (kp_6_6 rfl) (fun ls hl => ?_)
              refine lv_iload hx hb dX7_versionAt_61 (lv_at hl 6 rfl) ?_
              first
                | refine kif_eq (tgt := 71) hx hb dX7_versionAt_63 (by decide) (fun c_63 => ?_) (fun c_63 => ?_)
                | refine lv_if_eq (tgt := 71) hx hb dX7_versionAt_63 (by decide) (fun c_63 => ?_) (fun c_63 => ?_)
              · skip
                refine lv_iload_n hx hb dX7_versionAt_71 rfl (lv_at hl 3 rfl) ?_
                refine kist hx hb dX7_versionAt_72 rfl hl (by decide) (kp_7_3 rfl) (fun ls hl => ?_)
                refine lv_iload hx hb dX7_versionAt_73 (lv_at hl 6 rfl) ?_
                first
                  | refine kif_eq (tgt := 88) hx hb dX7_versionAt_75 (by decide) (fun c_75 => ?_) (fun c_75 => ?_)
                  | refine lv_if_eq (tgt := 88) hx hb dX7_versionAt_75 (by decide) (fun c_75 => ?_) (fun c_75 => ?_)
                · skip
                  refine lv_iload hx hb dX7_versionAt_88 (lv_at hl 4 rfl) ?_
                  refine kistW hx hb dX7_versionAt_90 hl (by decide) (kp_7_4 rfl) (fun ls hl => ?_)
                  first
                    | refine kinc (q := 5) hx hb dX7_versionAt_92 hl rfl (by decide) (kp_7_5 rfl) (fun ls hl => ?_)
                    | refine kincG (q := 5) hx hb dX7_versionAt_92 hl rfl (by decide) (kp_7_5 rfl) (fun ls hl => ?_)
                  refine lv_goto (tgt := 8) hx hb dX7_versionAt_95 (by decide) ?_
                  exact ih_8 _ _ _ _ _ _ (by omega) (by omega) (vaS_z iv_1 (fun z => Int32.not_le.mpr z.2.2 c_51)) hP hS (lv_sub hl [0,1,2,3,4,5] rfl)
                · skip
                  exact absurd rfl c_75
              · skip
                exact absurd rfl c_63
            · skip
              refine lv_iconst (v := nI 1) hx hb dX7_versionAt_54 (by decide) ?_
              refine lv_goto (tgt := 59) hx hb dX7_versionAt_55 (by decide) ?_
              refine kistW hx hb dX7_versionAt_59 hl (by decide) (kp_6_6 rfl) (fun ls hl => ?_)
              refine lv_iload hx hb dX7_versionAt_61 (lv_at hl 6 rfl) ?_
              first
                | refine kif_eq (tgt := 71) hx hb dX7_versionAt_63 (by decide) (fun c_63 => ?_) (fun c_63 => ?_)
                | refine lv_if_eq (tgt := 71) hx hb dX7_versionAt_63 (by decide) (fun c_63 => ?_) (fun c_63 => ?_)
              · skip
                exact absurd c_63 (by decide)
              · skip
                refine lv_iload hx hb dX7_versionAt_66 (lv_at hl 5 rfl) ?_
                refine lv_goto (tgt := 72) hx hb dX7_versionAt_68 (by decide) ?_
                refine kist hx hb dX7_versionAt_72 rfl hl (by decide) (kp_7_3 rfl) (fun ls hl => ?_)
                refine lv_iload hx hb dX7_versionAt_73 (lv_at hl 6 rfl) ?_
                first
                  | refine kif_eq (tgt := 88) hx hb dX7_versionAt_75 (by decide) (fun c_75 => ?_) (fun c_75 => ?_)
                  | refine lv_if_eq (tgt := 88) hx hb dX7_versionAt_75 (by decide) (fun c_75 => ?_) (fun c_75 => ?_)
                · skip
                  exact absurd c_75 (by decide)
                · skip
                  refine lv_aload_n hx hb dX7_versionAt_78 rfl (lv_at hl 0 rfl) ?_
                  refine lv_iload hx hb dX7_versionAt_79 (lv_at hl 5 rfl) ?_
                  refine lv_iconst (v := nI 1) hx hb dX7_versionAt_81 (by decide) ?_
                  refine kcV X hP hS (c_X7_ofV l hI (by first | assumption | omega)) oJ v_X7_54 ⟨Nat.le_of_ble_eq_true rfl, Nat.le_of_ble_eq_true rfl, rfl, rfl⟩ rfl rfl (Nat.le_of_ble_eq_true rfl) hl.1 ⟨Nat.zero_le _, Nat.zero_le _⟩ dX7_versionAt_82 (fun r_82 G_82 H locs hR hP hS => ?_)
                  obtain ⟨rfl, hG_82⟩ := hR
                  rw [hG_82] at hP
                  clear hG_82
                  refine lv_goto (tgt := 90) hx hb dX7_versionAt_85 (by decide) ?_
                  refine kistW hx hb dX7_versionAt_90 hl (by decide) (kp_7_4 rfl) (fun ls hl => ?_)
                  first
                    | refine kinc (q := 5) hx hb dX7_versionAt_92 hl rfl (by decide) (kp_7_5 rfl) (fun ls hl => ?_)
                    | refine kincG (q := 5) hx hb dX7_versionAt_92 hl rfl (by decide) (kp_7_5 rfl) (fun ls hl => ?_)
                  refine lv_goto (tgt := 8) hx hb dX7_versionAt_95 (by decide) ?_
                  exact ih_8 _ _ _ _ _ _ (by omega) (by omega) (vaS_p iv_1 c_28 (Int32.not_lt.mp c_39) (Int32.not_le.mp c_51)) hP hS (lv_sub hl [0,1,2,3,4,5] rfl)
  exact lp_8 _ 0 (-1) 0 _ _ _ (Nat.lt_succ_self _) (Nat.zero_le _) (rfl) hP hS (lv_sub hl [0,1,2,3,4,5] rfl)
