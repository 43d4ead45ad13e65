
def fl (f : Nat → Nat) (i : Nat) : Int32 := if cn f i ≠ 0 then 1 else 0
theorem fl_z {f : Nat → Nat} {i : Nat} {x : Int32} (h : x = fl f i) (hz : f i = 0) : x = fl f (i + 1) := by rw [h, fl, fl, cn, hz]; rfl
theorem fl_p {f : Nat → Nat} {i : Nat} (hz : f i = 1) : nI 1 = fl f (i + 1) := by rw [fl, cn, hz, if_pos (by omega)]; rfl
theorem fl_k {f : Nat → Nat} {i : Nat} {x : Int32} (h : x = fl f i) (hz : ¬ x = 0) : nI 1 = fl f (i + 1) := by
  rw [fl, cn, if_pos]
  · rfl
  · intro q
    exact hz (by rw [h, fl, if_neg (fun z => z (by omega))])
theorem fl_o {f : Nat → Nat} {i : Nat} {x : Int32} (h : x = fl f i) (hx : x = 0) (hz : f i = 0) : nI 0 = fl f (i + 1) := by rw [← fl_z h hz, hx]; rfl
theorem fl_01 (f : Nat → Nat) (i : Nat) : fl f i = 0 ∨ fl f i = 1 := by
  unfold fl
  split
  · exact Or.inr rfl
  · exact Or.inl rfl
/-- a reader's row, behind its payment -/
def tdR (row : Nat → Int32) (d : Int32) : Nat → Int32 := if row 1 = 0 ∧ row 6 = 0 then (if d ≤ row 3 then upd (upd row 3 (row 3 - d)) 7 (row 7 + d) else upd row 1 3) else row
def evR (row : Nat → Int32) (d : Int32) : Prop := (row 1 = 0 ∧ row 6 = 0) ∧ ¬ d ≤ row 3
def evN (G : Nat → Nat → Int32) (j : Nat) : Nat → Nat := fun r => if (G (rN j r) 1 = 0 ∧ G (rN j r) 6 = 0) ∧ ¬ G (sD j) r ≤ G (rN j r) 3 then 1 else 0
def stR (row : Nat → Int32) : Nat → Int32 := if row 1 = 0 ∧ 0 < row 6 then upd row 6 (row 6 - nI 1) else row
def teN (G : Nat → Nat → Int32) (j : Nat) : Nat → Nat := fun r => if (G (rN j r) 1 = 0 ∧ 0 < G (rN j r) 6) ∧ G (rN j r) 6 - nI 1 = 0 then 1 else 0
theorem rN_ne {j r i : Nat} (h : r ≠ i) : rN j r ≠ rN j i := by unfold rN; omega
theorem rows_s {G1 G2 : Nat → Nat → Int32} {j i : Nat} {F : Nat → Nat → Int32} (h : ∀ r, r < i → G1 (rN j r) = F r) (h2 : ∀ k, k ≠ rN j i → G2 k = G1 k) (hi : G2 (rN j i) = F i) : ∀ r, r < i + 1 → G2 (rN j r) = F r := fun r hr => by
  rcases Nat.lt_or_ge r i with q | q
  · rw [h2 _ (rN_ne (by omega))]; exact h r q
  · rw [show r = i by omega]; exact hi
theorem rows_f {G G1 G2 : Nat → Nat → Int32} {j i : Nat} (h : ∀ k, (∀ r, r < i → k ≠ rN j r) → G1 k = G k) (h2 : ∀ k, k ≠ rN j i → G2 k = G1 k) : ∀ k, (∀ r, r < i + 1 → k ≠ rN j r) → G2 k = G k := fun k hk => by
  rw [h2 k (hk i (by omega))]; exact h k (fun r hr => hk r (by omega))
theorem gs2_o {G : Nat → Nat → Int32} {k f g : Nat} {x y : Int32} : ∀ q, q ≠ k → gs (gs G k f x) k g y q = G q := fun q h => by rw [gs_other h, gs_other h]
theorem gs1_o {G : Nat → Nat → Int32} {k f : Nat} {x : Int32} : ∀ q, q ≠ k → gs G k f x q = G q := fun q h => gs_other h
theorem td_pay {G1 : Nat → Nat → Int32} {K S i : Nat} (h : S ≠ K) (h1 : G1 K 1 = 0 ∧ G1 K 6 = 0) (h2 : G1 S i ≤ G1 K 3) : gs (gs G1 K 3 (G1 K 3 - G1 S i)) K 7 (gs G1 K 3 (G1 K 3 - G1 S i) K 7 + gs G1 K 3 (G1 K 3 - G1 S i) S i) K = tdR (G1 K) (G1 S i) := by
  rw [gs_up, gs_up, gs_other h, tdR, if_pos h1, if_pos h2]
  simp [upd]
theorem td_ev {G1 : Nat → Nat → Int32} {K : Nat} {d : Int32} (h1 : G1 K 1 = 0 ∧ G1 K 6 = 0) (h2 : ¬ d ≤ G1 K 3) : gs G1 K 1 (nI 3) K = tdR (G1 K) d := by
  rw [gs_up, tdR, if_pos h1, if_neg h2]
  rfl
set_option maxHeartbeats 4000000 in
set_option maxRecDepth 100000 in
theorem c_X4_takeDues (l : Launch) {D : va_G} {τ : Nat → ClassId} {ad : Nat → Nat} (hI : kInj ad) {G : Nat → Nat → Int32} {j n : Nat} (hj : j < 7) (hn : G (sB j) 6 = nI n) (hn4 : n ≤ 40) : kM l yX4_takeDues cX4_takeDues 4 (some .boolean) { frames := 1, cells := 0, slots := 0, locals := 20 } D τ ad [.ref (ad (sB j))] G (fun v G' => v = fl (evN G j) n ∧ (∀ k, (∀ r, r < n → k ≠ rN j r) → G' k = G k) ∧ ∀ r, r < n → G' (rN j r) = tdR (G (rN j r)) (G (sD j) r)) := by
  refine kMetZ (own := RX4) (by decide) rfl (Nat.le_of_ble_eq_true rfl) ?_
  intro p9 e9 s9 m9 args9 below9 meth9 c9 Q9 X hx hb hP hS hret ls hl
  have hPs := hP
  have hl : lv_has ls 4 [(0, .ref (ad (sB j)))] := hl
  refine lv_iconst (v := nI 0) hx hb dX4_takeDues_0 (by decide) ?_
  refine kist hx hb dX4_takeDues_1 rfl hl (by decide) (kp_1_1 rfl) (fun ls hl => ?_)
  refine lv_iconst (v := nI 0) hx hb dX4_takeDues_2 (by decide) ?_
  refine kist hx hb dX4_takeDues_3 rfl hl (by decide) (kp_2_2 rfl) (fun ls hl => ?_)
  have lp_4 : ∀ (d : Nat) (x : Int32) (i : Nat) (G1 : Nat → Nat → Int32) (H : Heap) (locs : List Loc) (ls : Array Slot), (n - i) < d → (i ≤ n) → (∀ k, (∀ r, r < i → k ≠ rN j r) → G1 k = G k) → (∀ r, r < i → G1 (rN j r) = tdR (G (rN j r)) (G (sD j) r)) → (x = fl (evN G j) i) → va_P D vwCl (kW τ ad G1) H → va_S (kAd ad) s9.heap H locs → lv_has ls 4 [(0, .ref (ad (sB j))), (1, .int x), (2, .int (nI i))] → W p9 l e9 { frames := 1, cells := 0, slots := 0, locals := 20 } s9 m9 args9 below9 meth9 c9 H locs 0 0 Q9 (F0 m9 4 ls []) := by
    intro d
    induction d with
    | zero => exact fun _ _ _ _ _ _ hd => absurd hd (Nat.not_lt_zero _)
    | succ d ih_4 =>
      intro x i G1 H locs ls hd iv_0 iv_1 iv_2 iv_3 hP hS hl
      have e1 : G1 (rN j i) = G (rN j i) := iv_1 _ (fun r hr => rN_ne (by omega))
      have e2 : G1 (sD j) = G (sD j) := iv_1 _ (fun r hr => by unfold sD rN; omega)
      have e3 : G1 (sB j) = G (sB j) := iv_1 _ (fun r hr => by unfold sB rN; omega)
      have hn1 : G1 (sB j) 6 = nI n := by rw [e3]; exact hn
      have z0 : sD j ≠ rN j i := by unfold sD rN; omega
      refine lv_iload_n hx hb dX4_takeDues_4 rfl (lv_at hl 2 rfl) ?_
      refine lv_aload_n hx hb dX4_takeDues_5 rfl (lv_at hl 0 rfl) ?_
      refine kget X hP (oS (by first | assumption | omega)) g_X4_44 (congrArg (fun z => some (Value.int z)) hn1) dX4_takeDues_6 ?_
      first
        | refine kic_ge (tgt := 85) hx hb dX4_takeDues_9 (by decide) (by with_reducible rfl) (by with_reducible rfl) (by omega) (by omega) (fun c_9 => ?_) (fun c_9 => ?_)
        | refine lv_icmp_ge (tgt := 85) hx hb dX4_takeDues_9 (by decide) (fun c_9 => ?_) (fun c_9 => ?_)
      · skip
        refine lv_iload_n hx hb dX4_takeDues_85 rfl (lv_at hl 1 rfl) ?_
        exact hret _ _ _ _ _ _ (by rw [iv_3]; exact fl_01 _ _) (by have ei : i = n := (by omega); rw [ei] at iv_1 iv_2 iv_3; exact ⟨iv_3, iv_1, iv_2⟩) hP hS dX4_takeDues_86
      · skip
        refine lv_aload_n hx hb dX4_takeDues_12 rfl (lv_at hl 0 rfl) ?_
        refine kget X hP (oS (by first | assumption | omega)) g_X4_19 rfl dX4_takeDues_13 ?_
        refine lv_iload_n hx hb dX4_takeDues_16 rfl (lv_at hl 2 rfl) ?_
        refine kaald X hP (qR (by first | assumption | omega)) (by first | assumption | omega) rfl dX4_takeDues_17 ?_
        refine kast hx hb dX4_takeDues_18 rfl hl (by decide) (kp_3_3 rfl) (fun ls hl => ?_)
        refine lv_aload_n hx hb dX4_takeDues_19 rfl (lv_at hl 3 rfl) ?_
        refine kcV X hP hS (c_X3_paysRent l hI (by first | assumption | omega) (by first | assumption | omega)) (oR (by first | assumption | omega) (by first | assumption | omega)) v_X4_95 ⟨Nat.le_of_ble_eq_true rfl, Nat.le_of_ble_eq_true rfl, rfl, rfl⟩ rfl rfl (Nat.le_of_ble_eq_true rfl) hl.1 ⟨Nat.zero_le _, Nat.zero_le _⟩ dX4_takeDues_20 (fun r_20 G_20 H locs hR hP hS => ?_)
        obtain ⟨rfl, hG_20⟩ := hR
        rw [hG_20] at hP
        clear hG_20
        first
          | refine kif_eq (tgt := 79) hx hb dX4_takeDues_23 (by decide) (fun c_23 => ?_) (fun c_23 => ?_)
          | refine lv_if_eq (tgt := 79) hx hb dX4_takeDues_23 (by decide) (fun c_23 => ?_) (fun c_23 => ?_)
        · skip
          first
            | refine kinc (q := 2) hx hb dX4_takeDues_79 hl rfl (by decide) (kp_4_2 rfl) (fun ls hl => ?_)
            | refine kincG (q := 2) hx hb dX4_takeDues_79 hl rfl (by decide) (kp_4_2 rfl) (fun ls hl => ?_)
          refine lv_goto (tgt := 4) hx hb dX4_takeDues_82 (by decide) ?_
          exact ih_4 _ _ _ _ _ _ (by omega) (by omega) (fun k hk => iv_1 k (fun r hr => hk r (by omega))) (rows_s iv_2 (fun _ _ => rfl) (by rw [e1, tdR, if_neg (by rw [← e1]; exact c_23)])) (fl_z iv_3 (if_neg (fun z => c_23 (by rw [e1]; exact z.1)))) hP hS (lv_sub hl [0,1,2] rfl)
        · skip
          refine lv_aload_n hx hb dX4_takeDues_26 rfl (lv_at hl 3 rfl) ?_
          refine kget X hP (oR (by first | assumption | omega) (by first | assumption | omega)) g_X4_137 rfl dX4_takeDues_27 ?_
          refine lv_aload_n hx hb dX4_takeDues_30 rfl (lv_at hl 0 rfl) ?_
          refine kget X hP (oS (by first | assumption | omega)) g_X4_33 rfl dX4_takeDues_31 ?_
          refine lv_iload_n hx hb dX4_takeDues_34 rfl (lv_at hl 2 rfl) ?_
          refine kiald X hP (aD (by first | assumption | omega)) (by first | assumption | omega) dX4_takeDues_35 ?_
          first
            | refine kic_lt (tgt := 72) hx hb dX4_takeDues_36 (by decide) (by with_reducible rfl) (by with_reducible rfl) (by omega) (by omega) (fun c_36 => ?_) (fun c_36 => ?_)
            | refine lv_icmp_lt (tgt := 72) hx hb dX4_takeDues_36 (by decide) (fun c_36 => ?_) (fun c_36 => ?_)
          · skip
            refine lv_aload_n hx hb dX4_takeDues_72 rfl (lv_at hl 3 rfl) ?_
            refine lv_iconst (v := nI 3) hx hb dX4_takeDues_73 (by decide) ?_
            refine kput X hI hP hS (oR (by first | assumption | omega) (by first | assumption | omega)) g_X4_73 (fun _ => rfl) rfl (fun _ => Nat.le_of_ble_eq_true rfl) rfl rfl dX4_takeDues_74 (fun H locs hP hS => ?_)
            refine lv_iconst (v := nI 1) hx hb dX4_takeDues_77 (by decide) ?_
            refine kist hx hb dX4_takeDues_78 rfl hl (by decide) (kp_4_1 rfl) (fun ls hl => ?_)
            first
              | refine kinc (q := 2) hx hb dX4_takeDues_79 hl rfl (by decide) (kp_4_2 rfl) (fun ls hl => ?_)
              | refine kincG (q := 2) hx hb dX4_takeDues_79 hl rfl (by decide) (kp_4_2 rfl) (fun ls hl => ?_)
            refine lv_goto (tgt := 4) hx hb dX4_takeDues_82 (by decide) ?_
            exact ih_4 _ _ _ _ _ _ (by omega) (by omega) (rows_f iv_1 (by first | exact gs2_o | exact gs1_o)) (rows_s iv_2 gs1_o ((td_ev c_23 (Int32.not_le.mpr c_36)).trans (by rw [e1, e2]))) (fl_p (if_pos (by rw [← e1, ← e2]; exact ⟨c_23, Int32.not_le.mpr c_36⟩))) hP hS (lv_sub hl [0,1,2] rfl)
          · skip
            refine lv_aload_n hx hb dX4_takeDues_39 rfl (lv_at hl 3 rfl) ?_
            refine lv_dup hx hb dX4_takeDues_40 rfl ?_
            refine kget X hP (oR (by first | assumption | omega) (by first | assumption | omega)) g_X4_137 rfl dX4_takeDues_41 ?_
            refine lv_aload_n hx hb dX4_takeDues_44 rfl (lv_at hl 0 rfl) ?_
            refine kget X hP (oS (by first | assumption | omega)) g_X4_33 rfl dX4_takeDues_45 ?_
            refine lv_iload_n hx hb dX4_takeDues_48 rfl (lv_at hl 2 rfl) ?_
            refine kiald X hP (aD (by first | assumption | omega)) (by first | assumption | omega) dX4_takeDues_49 ?_
            first
              | refine ksub hx hb dX4_takeDues_50 (by with_reducible rfl) (by with_reducible rfl) (by omega) ?_
              | refine lv_isub hx hb dX4_takeDues_50 ?_
            refine kput X hI hP hS (oR (by first | assumption | omega) (by first | assumption | omega)) g_X4_137 (fun _ => rfl) rfl (fun _ => Nat.le_of_ble_eq_true rfl) rfl rfl dX4_takeDues_51 (fun H locs hP hS => ?_)
            refine lv_aload_n hx hb dX4_takeDues_54 rfl (lv_at hl 3 rfl) ?_
            refine lv_dup hx hb dX4_takeDues_55 rfl ?_
            refine kget X hP (oR (by first | assumption | omega) (by first | assumption | omega)) g_X4_80 rfl dX4_takeDues_56 ?_
            refine lv_aload_n hx hb dX4_takeDues_59 rfl (lv_at hl 0 rfl) ?_
            refine kget X hP (oS (by first | assumption | omega)) g_X4_33 rfl dX4_takeDues_60 ?_
            refine lv_iload_n hx hb dX4_takeDues_63 rfl (lv_at hl 2 rfl) ?_
            refine kiald X hP (aD (by first | assumption | omega)) (by first | assumption | omega) dX4_takeDues_64 ?_
            first
              | refine kadd hx hb dX4_takeDues_65 (by with_reducible rfl) (by with_reducible rfl) ?_
              | refine lv_iadd hx hb dX4_takeDues_65 ?_
            refine kput X hI hP hS (oR (by first | assumption | omega) (by first | assumption | omega)) g_X4_80 (fun _ => rfl) rfl (fun _ => Nat.le_of_ble_eq_true rfl) rfl rfl dX4_takeDues_66 (fun H locs hP hS => ?_)
            refine lv_goto (tgt := 79) hx hb dX4_takeDues_69 (by decide) ?_
            first
              | refine kinc (q := 2) hx hb dX4_takeDues_79 hl rfl (by decide) (kp_4_2 rfl) (fun ls hl => ?_)
              | refine kincG (q := 2) hx hb dX4_takeDues_79 hl rfl (by decide) (kp_4_2 rfl) (fun ls hl => ?_)
            refine lv_goto (tgt := 4) hx hb dX4_takeDues_82 (by decide) ?_
            exact ih_4 _ _ _ _ _ _ (by omega) (by omega) (rows_f iv_1 (by first | exact gs2_o | exact gs1_o)) (rows_s iv_2 gs2_o ((td_pay z0 c_23 (Int32.not_lt.mp c_36)).trans (by rw [e1, e2]))) (fl_z iv_3 (if_neg (fun z => z.2 (by rw [← e1, ← e2]; exact Int32.not_lt.mp c_36)))) hP hS (lv_sub hl [0,1,2] rfl)
  exact lp_4 _ (nI 0) 0 G _ _ _ (Nat.lt_succ_self _) (Nat.zero_le _) (fun _ _ => rfl) (fun r h => absurd h (by omega)) (rfl) hP hS (lv_sub hl [0,1,2] rfl)

set_option maxHeartbeats 4000000 in
set_option maxRecDepth 100000 in
theorem c_X4_shortenTerms (l : Launch) {D : va_G} {τ : Nat → ClassId} {ad : Nat → Nat} (hI : kInj ad) {G : Nat → Nat → Int32} {j n : Nat} (hj : j < 7) (hn : G (sB j) 6 = nI n) (hn4 : n ≤ 40) : kM l yX4_shortenTerms cX4_shortenTerms 4 (some .boolean) { frames := 1, cells := 0, slots := 0, locals := 20 } D τ ad [.ref (ad (sB j))] G (fun v G' => v = fl (teN G j) n ∧ (∀ k, (∀ r, r < n → k ≠ rN j r) → G' k = G k) ∧ ∀ r, r < n → G' (rN j r) = stR (G (rN j r))) := by
  refine kMetZ (own := RX4) (by decide) rfl (Nat.le_of_ble_eq_true rfl) ?_
  intro p9 e9 s9 m9 args9 below9 meth9 c9 Q9 X hx hb hP hS hret ls hl
  have hPs := hP
  have hl : lv_has ls 4 [(0, .ref (ad (sB j)))] := hl
  refine lv_iconst (v := nI 0) hx hb dX4_shortenTerms_0 (by decide) ?_
  refine kist hx hb dX4_shortenTerms_1 rfl hl (by decide) (kp_1_1 rfl) (fun ls hl => ?_)
  refine lv_iconst (v := nI 0) hx hb dX4_shortenTerms_2 (by decide) ?_
  refine kist hx hb dX4_shortenTerms_3 rfl hl (by decide) (kp_2_2 rfl) (fun ls hl => ?_)
  have lp_4 : ∀ (d : Nat) (x : Int32) (i : Nat) (G1 : Nat → Nat → Int32) (H : Heap) (locs : List Loc) (ls : Array Slot), (n - i) < d → (i ≤ n) → (∀ k, (∀ r, r < i → k ≠ rN j r) → G1 k = G k) → (∀ r, r < i → G1 (rN j r) = stR (G (rN j r))) → (x = fl (teN G j) i) → va_P D vwCl (kW τ ad G1) H → va_S (kAd ad) s9.heap H locs → lv_has ls 4 [(0, .ref (ad (sB j))), (1, .int x), (2, .int (nI i))] → W p9 l e9 { frames := 1, cells := 0, slots := 0, locals := 20 } s9 m9 args9 below9 meth9 c9 H locs 0 0 Q9 (F0 m9 4 ls []) := by
    intro d
    induction d with
    | zero => exact fun _ _ _ _ _ _ hd => absurd hd (Nat.not_lt_zero _)
    | succ d ih_4 =>
      intro x i G1 H locs ls hd iv_0 iv_1 iv_2 iv_3 hP hS hl
      have e1 : G1 (rN j i) = G (rN j i) := iv_1 _ (fun r hr => rN_ne (by omega))
      have e2 : G1 (sD j) = G (sD j) := iv_1 _ (fun r hr => by unfold sD rN; omega)
      have e3 : G1 (sB j) = G (sB j) := iv_1 _ (fun r hr => by unfold sB rN; omega)
      have hn1 : G1 (sB j) 6 = nI n := by rw [e3]; exact hn
      have z0 : sD j ≠ rN j i := by unfold sD rN; omega
      refine lv_iload_n hx hb dX4_shortenTerms_4 rfl (lv_at hl 2 rfl) ?_
      refine lv_aload_n hx hb dX4_shortenTerms_5 rfl (lv_at hl 0 rfl) ?_
      refine kget X hP (oS (by first | assumption | omega)) g_X4_44 (congrArg (fun z => some (Value.int z)) hn1) dX4_shortenTerms_6 ?_
      first
        | refine kic_ge (tgt := 59) hx hb dX4_shortenTerms_9 (by decide) (by with_reducible rfl) (by with_reducible rfl) (by omega) (by omega) (fun c_9 => ?_) (fun c_9 => ?_)
        | refine lv_icmp_ge (tgt := 59) hx hb dX4_shortenTerms_9 (by decide) (fun c_9 => ?_) (fun c_9 => ?_)
      · skip
        refine lv_iload_n hx hb dX4_shortenTerms_59 rfl (lv_at hl 1 rfl) ?_
        exact hret _ _ _ _ _ _ (by rw [iv_3]; exact fl_01 _ _) (by have ei : i = n := (by omega); rw [ei] at iv_1 iv_2 iv_3; exact ⟨iv_3, iv_1, iv_2⟩) hP hS dX4_shortenTerms_60
      · skip
        refine lv_aload_n hx hb dX4_shortenTerms_12 rfl (lv_at hl 0 rfl) ?_
        refine kget X hP (oS (by first | assumption | omega)) g_X4_19 rfl dX4_shortenTerms_13 ?_
        refine lv_iload_n hx hb dX4_shortenTerms_16 rfl (lv_at hl 2 rfl) ?_
        refine kaald X hP (qR (by first | assumption | omega)) (by first | assumption | omega) rfl dX4_shortenTerms_17 ?_
        refine kast hx hb dX4_shortenTerms_18 rfl hl (by decide) (kp_3_3 rfl) (fun ls hl => ?_)
        refine lv_aload_n hx hb dX4_shortenTerms_19 rfl (lv_at hl 3 rfl) ?_
        refine kcV X hP hS (c_X3_isOpenWidow l hI (by first | assumption | omega) (by first | assumption | omega)) (oR (by first | assumption | omega) (by first | assumption | omega)) v_X4_76 ⟨Nat.le_of_ble_eq_true rfl, Nat.le_of_ble_eq_true rfl, rfl, rfl⟩ rfl rfl (Nat.le_of_ble_eq_true rfl) hl.1 ⟨Nat.zero_le _, Nat.zero_le _⟩ dX4_shortenTerms_20 (fun r_20 G_20 H locs hR hP hS => ?_)
        obtain ⟨rfl, hG_20⟩ := hR
        rw [hG_20] at hP
        clear hG_20
        first
          | refine kif_eq (tgt := 53) hx hb dX4_shortenTerms_23 (by decide) (fun c_23 => ?_) (fun c_23 => ?_)
          | refine lv_if_eq (tgt := 53) hx hb dX4_shortenTerms_23 (by decide) (fun c_23 => ?_) (fun c_23 => ?_)
        · skip
          first
            | refine kinc (q := 2) hx hb dX4_shortenTerms_53 hl rfl (by decide) (kp_4_2 rfl) (fun ls hl => ?_)
            | refine kincG (q := 2) hx hb dX4_shortenTerms_53 hl rfl (by decide) (kp_4_2 rfl) (fun ls hl => ?_)
          refine lv_goto (tgt := 4) hx hb dX4_shortenTerms_56 (by decide) ?_
          exact ih_4 _ _ _ _ _ _ (by omega) (by omega) (fun k hk => iv_1 k (fun r hr => hk r (by omega))) (rows_s iv_2 (fun _ _ => rfl) (by rw [e1, stR, if_neg (by rw [← e1]; exact c_23)])) (fl_z iv_3 (if_neg (fun z => c_23 (by rw [e1]; exact z.1)))) hP hS (lv_sub hl [0,1,2] rfl)
        · skip
          refine lv_aload_n hx hb dX4_shortenTerms_26 rfl (lv_at hl 3 rfl) ?_
          refine lv_dup hx hb dX4_shortenTerms_27 rfl ?_
          refine kget X hP (oR (by first | assumption | omega) (by first | assumption | omega)) g_X4_140 rfl dX4_shortenTerms_28 ?_
          refine lv_iconst (v := nI 1) hx hb dX4_shortenTerms_31 (by decide) ?_
          first
            | refine ksub hx hb dX4_shortenTerms_32 (by with_reducible rfl) (by with_reducible rfl) (by omega) ?_
            | refine lv_isub hx hb dX4_shortenTerms_32 ?_
          refine kput X hI hP hS (oR (by first | assumption | omega) (by first | assumption | omega)) g_X4_140 (fun _ => rfl) rfl (fun _ => Nat.le_of_ble_eq_true rfl) rfl rfl dX4_shortenTerms_33 (fun H locs hP hS => ?_)
          refine lv_iload_n hx hb dX4_shortenTerms_36 rfl (lv_at hl 1 rfl) ?_
          first
            | refine kif_ne (tgt := 47) hx hb dX4_shortenTerms_37 (by decide) (fun c_37 => ?_) (fun c_37 => ?_)
            | refine lv_if_ne (tgt := 47) hx hb dX4_shortenTerms_37 (by decide) (fun c_37 => ?_) (fun c_37 => ?_)
          · skip
            refine lv_iconst (v := nI 1) hx hb dX4_shortenTerms_47 (by decide) ?_
            refine lv_goto (tgt := 52) hx hb dX4_shortenTerms_48 (by decide) ?_
            refine kist hx hb dX4_shortenTerms_52 rfl hl (by decide) (kp_4_1 rfl) (fun ls hl => ?_)
            first
              | refine kinc (q := 2) hx hb dX4_shortenTerms_53 hl rfl (by decide) (kp_4_2 rfl) (fun ls hl => ?_)
              | refine kincG (q := 2) hx hb dX4_shortenTerms_53 hl rfl (by decide) (kp_4_2 rfl) (fun ls hl => ?_)
            refine lv_goto (tgt := 4) hx hb dX4_shortenTerms_56 (by decide) ?_
            exact ih_4 _ _ _ _ _ _ (by omega) (by omega) (rows_f iv_1 gs1_o) (rows_s iv_2 gs1_o (by rw [gs_up, stR, ← e1, if_pos c_23])) (fl_k iv_3 c_37) hP hS (lv_sub hl [0,1,2] rfl)
          · skip
            refine lv_aload_n hx hb dX4_shortenTerms_40 rfl (lv_at hl 3 rfl) ?_
            have e6 : gs G1 (rN j i) 6 (G1 (rN j i) 6 - nI 1) (rN j i) 6 = G1 (rN j i) 6 - nI 1 := by simp [gs]
            refine kget X hP (oR (by first | assumption | omega) (by first | assumption | omega)) g_X4_140 rfl dX4_shortenTerms_41 ?_
            rw [e6]
            first
              | refine kif_ne (tgt := 51) hx hb dX4_shortenTerms_44 (by decide) (fun c_44 => ?_) (fun c_44 => ?_)
              | refine lv_if_ne (tgt := 51) hx hb dX4_shortenTerms_44 (by decide) (fun c_44 => ?_) (fun c_44 => ?_)
            · skip
              refine lv_iconst (v := nI 0) hx hb dX4_shortenTerms_51 (by decide) ?_
              refine kist hx hb dX4_shortenTerms_52 rfl hl (by decide) (kp_4_1 rfl) (fun ls hl => ?_)
              first
                | refine kinc (q := 2) hx hb dX4_shortenTerms_53 hl rfl (by decide) (kp_4_2 rfl) (fun ls hl => ?_)
                | refine kincG (q := 2) hx hb dX4_shortenTerms_53 hl rfl (by decide) (kp_4_2 rfl) (fun ls hl => ?_)
              refine lv_goto (tgt := 4) hx hb dX4_shortenTerms_56 (by decide) ?_
              exact ih_4 _ _ _ _ _ _ (by omega) (by omega) (rows_f iv_1 gs1_o) (rows_s iv_2 gs1_o (by rw [gs_up, stR, ← e1, if_pos c_23])) (fl_o iv_3 c_37 (if_neg (fun z => c_44 (by rw [e1]; exact z.2)))) hP hS (lv_sub hl [0,1,2] rfl)
            · skip
              refine lv_iconst (v := nI 1) hx hb dX4_shortenTerms_47 (by decide) ?_
              refine lv_goto (tgt := 52) hx hb dX4_shortenTerms_48 (by decide) ?_
              refine kist hx hb dX4_shortenTerms_52 rfl hl (by decide) (kp_4_1 rfl) (fun ls hl => ?_)
              first
                | refine kinc (q := 2) hx hb dX4_shortenTerms_53 hl rfl (by decide) (kp_4_2 rfl) (fun ls hl => ?_)
                | refine kincG (q := 2) hx hb dX4_shortenTerms_53 hl rfl (by decide) (kp_4_2 rfl) (fun ls hl => ?_)
              refine lv_goto (tgt := 4) hx hb dX4_shortenTerms_56 (by decide) ?_
              exact ih_4 _ _ _ _ _ _ (by omega) (by omega) (rows_f iv_1 gs1_o) (rows_s iv_2 gs1_o (by rw [gs_up, stR, ← e1, if_pos c_23])) (fl_p (if_pos (by rw [← e1]; exact ⟨c_23, c_44⟩))) hP hS (lv_sub hl [0,1,2] rfl)
  exact lp_4 _ (nI 0) 0 G _ _ _ (Nat.lt_succ_self _) (Nat.zero_le _) (fun _ _ => rfl) (fun r h => absurd h (by omega)) (rfl) hP hS (lv_sub hl [0,1,2] rfl)

def snF (G : Nat → Nat → Int32) (j n : Nat) (P : Nat → Nat) (c : Nat) : Int32 := so (psB G j c (P c) (-1)) n
theorem psB_congr {G G' : Nat → Nat → Int32} {j c P : Nat} {q : Int32} (h1 : ∀ i, G' (rN j i) = G (rN j i)) (h2 : G' (cM j c) = G (cM j c)) : psB G' j c P q = psB G j c P q := by
  unfold psB
  simp only [h1, h2]
theorem RT_of {G G1 G2 : Nat → Nat → Int32} {j c P : Nat} {w : Int32} (h : RT G1 G2 j c P w) (h1 : G1 (cV j c) = G (cV j c)) (h2 : G1 (cM j c) = G (cM j c)) : RT G G2 j c P w := by
  obtain ⟨a, b, d, e⟩ := h
  refine ⟨a, by rw [b, h1], by rw [d, h2], fun p p1 p2 p3 => ?_⟩
  have := e p p1 p2 p3
  rw [h1, h2] at this
  exact this
theorem RT_to {G G1 G2 : Nat → Nat → Int32} {j c P : Nat} {w : Int32} (h : RT G G1 j c P w) (h0 : G2 (cB j c) = G1 (cB j c)) (h1 : G2 (cV j c) = G1 (cV j c)) (h2 : G2 (cM j c) = G1 (cM j c)) : RT G G2 j c P w := by
  unfold RT
  rw [h0, h1, h2]
  exact h
set_option maxHeartbeats 4000000 in
set_option maxRecDepth 100000 in
theorem c_X4_removeUnseen (l : Launch) {D : va_G} {τ : Nat → ClassId} {ad : Nat → Nat} (hI : kInj ad) {G : Nat → Nat → Int32} {j n : Nat} {P : Nat → Nat} (hj : j < 7) (hn : G (sB j) 6 = nI n) (hn4 : n ≤ 40) (hp : ∀ c, c < 12 → G (cB j c) 2 = nI (P c) ∧ 1 ≤ P c ∧ P c ≤ 10) : kM l yX4_removeUnseen cX4_removeUnseen 3 (some .int) { frames := 2, cells := 0, slots := 0, locals := 47 } D τ ad [.ref (ad (sB j))] G (fun v G' => v = nI (cn (fun c => P c - (1 + cn (rf (snF G j n P c)) (P c))) 12) ∧ (∀ c, c < 12 → RT G G' j c (P c) (snF G j n P c)) ∧ (∀ f, f ≠ 8 → G' (sB j) f = G (sB j) f) ∧ G' (sB j) 8 = G (sB j) 8 + v ∧ ∀ k, k ≠ sB j → (∀ c, c < 12 → k ≠ cB j c ∧ k ≠ cV j c ∧ k ≠ cM j c) → G' k = G k) := by
  refine kMet (own := RX4) (by decide) rfl (Nat.le_of_ble_eq_true rfl) ?_
  intro p9 e9 s9 m9 args9 below9 meth9 c9 Q9 X hx hb hP hS hret ls hl
  have hPs := hP
  have hl : lv_has ls 3 [(0, .ref (ad (sB j)))] := hl
  refine lv_iconst (v := nI 0) hx hb dX4_removeUnseen_0 (by decide) ?_
  refine kist hx hb dX4_removeUnseen_1 rfl hl (by decide) (kp_1_1 rfl) (fun ls hl => ?_)
  refine lv_iconst (v := nI 0) hx hb dX4_removeUnseen_2 (by decide) ?_
  refine kist hx hb dX4_removeUnseen_3 rfl hl (by decide) (kp_2_2 rfl) (fun ls hl => ?_)
  have lp_4 : ∀ (d : Nat) (x i : Nat) (G1 : Nat → Nat → Int32) (H : Heap) (locs : List Loc) (ls : Array Slot), (12 - i) < d → (i ≤ 12) → (x = cn (fun c => P c - (1 + cn (rf (snF G j n P c)) (P c))) i) → (∀ k, (∀ c, c < i → k ≠ cB j c ∧ k ≠ cV j c ∧ k ≠ cM j c) → G1 k = G k) → (∀ c, c < i → RT G G1 j c (P c) (snF G j n P c)) → va_P D vwCl (kW τ ad G1) H → va_S (kAd ad) s9.heap H locs → lv_has ls 3 [(0, .ref (ad (sB j))), (1, .int (nI x)), (2, .int (nI i))] → W p9 l e9 { frames := 2, cells := 0, slots := 0, locals := 47 } s9 m9 args9 below9 meth9 c9 H locs 0 0 Q9 (F0 m9 4 ls []) := by
    intro d
    induction d with
    | zero => exact fun _ _ _ _ _ _ hd => absurd hd (Nat.not_lt_zero _)
    | succ d ih_4 =>
      intro x i G1 H locs ls hd iv_0 iv_1 iv_2 iv_3 hP hS hl
      have er : ∀ t, G1 (rN j t) = G (rN j t) := fun t => iv_2 _ (fun c hc => by unfold rN cB cV cM; omega)
      have e3 : G1 (sB j) = G (sB j) := iv_2 _ (fun c hc => by unfold sB cB cV cM; omega)
      have ev : G1 (cV j i) = G (cV j i) := iv_2 _ (fun c hc => by unfold cB cV cM; omega)
      have em : G1 (cM j i) = G (cM j i) := iv_2 _ (fun c hc => by unfold cB cV cM; omega)
      have eb : G1 (cB j i) = G (cB j i) := iv_2 _ (fun c hc => by unfold cB cV cM; omega)
      refine lv_iload_n hx hb dX4_removeUnseen_4 rfl (lv_at hl 2 rfl) ?_
      refine lv_bipush (v := nI 12) hx hb dX4_removeUnseen_5 (by decide) ?_
      first
        | refine kic_ge (tgt := 39) hx hb dX4_removeUnseen_7 (by decide) (by with_reducible rfl) (by with_reducible rfl) (by omega) (by omega) (fun c_7 => ?_) (fun c_7 => ?_)
        | refine lv_icmp_ge (tgt := 39) hx hb dX4_removeUnseen_7 (by decide) (fun c_7 => ?_) (fun c_7 => ?_)
      · skip
        refine lv_aload_n hx hb dX4_removeUnseen_39 rfl (lv_at hl 0 rfl) ?_
        refine lv_dup hx hb dX4_removeUnseen_40 rfl ?_
        refine kget X hP (oS (by first | assumption | omega)) g_X4_62 rfl dX4_removeUnseen_41 ?_
        refine lv_iload_n hx hb dX4_removeUnseen_44 rfl (lv_at hl 1 rfl) ?_
        first
          | refine kadd hx hb dX4_removeUnseen_45 (by with_reducible rfl) (by with_reducible rfl) ?_
          | refine lv_iadd hx hb dX4_removeUnseen_45 ?_
        refine kput X hI hP hS (oS (by first | assumption | omega)) g_X4_62 (fun _ => rfl) rfl (fun _ => Nat.le_of_ble_eq_true rfl) rfl rfl dX4_removeUnseen_46 (fun H locs hP hS => ?_)
        refine lv_iload_n hx hb dX4_removeUnseen_49 rfl (lv_at hl 1 rfl) ?_
        exact hret _ _ _ _ _ _ (by
            have ei : i = 12 := (by omega)
            rw [ei] at iv_1 iv_2 iv_3
            refine ⟨by rw [iv_1], fun c hc => RT_to (iv_3 c hc) (gs_other (by unfold sB cB; omega)) (gs_other (by unfold sB cV; omega)) (gs_other (by unfold sB cM; omega)), fun f hf => by simp [gs, hf, e3], by simp [gs, e3], fun k h1 h2 => by rw [gs_other h1]; exact iv_2 k h2⟩) hP hS dX4_removeUnseen_50
      · skip
        refine lv_iload_n hx hb dX4_removeUnseen_10 rfl (lv_at hl 1 rfl) ?_
        refine lv_aload_n hx hb dX4_removeUnseen_11 rfl (lv_at hl 0 rfl) ?_
        refine kget X hP (oS (by first | assumption | omega)) g_X4_11 rfl dX4_removeUnseen_12 ?_
        refine lv_iload_n hx hb dX4_removeUnseen_15 rfl (lv_at hl 2 rfl) ?_
        refine kaald X hP (qC (by first | assumption | omega)) (by first | assumption | omega) rfl dX4_removeUnseen_16 ?_
        refine lv_aload_n hx hb dX4_removeUnseen_17 rfl (lv_at hl 0 rfl) ?_
        refine lv_aload_n hx hb dX4_removeUnseen_18 rfl (lv_at hl 0 rfl) ?_
        refine kget X hP (oS (by first | assumption | omega)) g_X4_11 rfl dX4_removeUnseen_19 ?_
        refine lv_iload_n hx hb dX4_removeUnseen_22 rfl (lv_at hl 2 rfl) ?_
        refine kaald X hP (qC (by first | assumption | omega)) (by first | assumption | omega) rfl dX4_removeUnseen_23 ?_
        refine lv_iconst (v := (-1)) hx hb dX4_removeUnseen_24 (by decide) ?_
        refine kcV X hP hS (c_X4_placesSeen l hI (q := -1) hj (by rw [e3]; exact hn) hn4 (by omega) (P := P i) (by rw [eb]; exact (hp i (by omega)).1) (hp i (by omega)).2.2) (oS (by first | assumption | omega)) v_X4_104 ⟨Nat.le_of_ble_eq_true rfl, Nat.le_of_ble_eq_true rfl, rfl, rfl⟩ rfl rfl (Nat.le_of_ble_eq_true rfl) hl.1 ⟨Nat.zero_le _, Nat.zero_le _⟩ dX4_removeUnseen_25 (fun r_25 G_25 H locs hR hP hS => ?_)
        obtain ⟨rfl, hG_25⟩ := hR
        rw [hG_25] at hP
        clear hG_25
        rw [psB_congr er em]
        refine kcV X hP hS (c_X0_retainOld l hI (P := P i) hj (by omega) (by rw [eb]; exact (hp i (by omega)).1) (hp i (by omega)).2.1 (hp i (by omega)).2.2) (oC (by first | assumption | omega) (by first | assumption | omega)) v_X4_108 ⟨Nat.le_of_ble_eq_true rfl, Nat.le_of_ble_eq_true rfl, rfl, rfl⟩ rfl rfl (Nat.le_of_ble_eq_true rfl) hl.1 ⟨Nat.zero_le _, Nat.zero_le _⟩ dX4_removeUnseen_28 (fun r_28 G_28 H locs hR hP hS => ?_)
        obtain ⟨rfl, hF_28, hR_28⟩ := hR
        first
          | refine kadd hx hb dX4_removeUnseen_31 (by with_reducible rfl) (by with_reducible rfl) ?_
          | refine lv_iadd hx hb dX4_removeUnseen_31 ?_
        refine kist hx hb dX4_removeUnseen_32 rfl hl (by decide) (kp_3_1 rfl) (fun ls hl => ?_)
        first
          | refine kinc (q := 2) hx hb dX4_removeUnseen_33 hl rfl (by decide) (kp_3_2 rfl) (fun ls hl => ?_)
          | refine kincG (q := 2) hx hb dX4_removeUnseen_33 hl rfl (by decide) (kp_3_2 rfl) (fun ls hl => ?_)
        refine lv_goto (tgt := 4) hx hb dX4_removeUnseen_36 (by decide) ?_
        exact ih_4 _ _ _ _ _ _ (by omega) (by omega) (by rw [iv_1]; rfl) (fun k hk => by rw [hF_28 k (hk i (by omega)).1 (hk i (by omega)).2.1 (hk i (by omega)).2.2]; exact iv_2 k (fun c hc => hk c (by omega))) (fun c hc => by
                rcases Nat.lt_or_ge c i with q | q
                · exact RT_to (iv_3 c q) (hF_28 _ (by unfold cB; omega) (by unfold cB cV; omega) (by unfold cB cM; omega)) (hF_28 _ (by unfold cB cV; omega) (by unfold cV; omega) (by unfold cV cM; omega)) (hF_28 _ (by unfold cB cM; omega) (by unfold cV cM; omega) (by unfold cM; omega))
                · have e : c = i := (by omega)
                  subst e
                  exact RT_of hR_28 ev em) hP hS (lv_sub hl [0,1,2] rfl)
  exact lp_4 _ 0 0 G _ _ _ (Nat.lt_succ_self _) (Nat.zero_le _) (rfl) (fun _ _ => rfl) (fun c h => absurd h (by omega)) hP hS (lv_sub hl [0,1,2] rfl)
