
def zrF (G : Nat → Nat → Int32) (n k : Nat) : Nat → Nat → Int32 := fun q f => if q = 1 ∧ 9 + 20 * n ≤ f ∧ f < 9 + 20 * n + k then nI 0 else G q f
theorem zrF_0 (G : Nat → Nat → Int32) (n : Nat) : zrF G n 0 = G := by
  funext q f
  unfold zrF
  rw [if_neg (by omega)]
theorem zrF_s (G : Nat → Nat → Int32) (n k : Nat) : gs (zrF G n k) 1 (9 + 20 * n + k) (nI 0) = zrF G n (k + 1) := by
  funext q f
  unfold gs zrF
  by_cases h : q = 1 ∧ f = 9 + 20 * n + k
  · rw [if_pos h, if_pos (by omega)]
  · rw [if_neg h]
    by_cases h2 : q = 1 ∧ 9 + 20 * n ≤ f ∧ f < 9 + 20 * n + k
    · rw [if_pos h2, if_pos (by omega)]
    · rw [if_neg h2, if_neg (by omega)]
/-- a tick of the reference: the numbers, how many versions, how many evicted so far -/
def tkS (n : Nat) (s : (Nat → Int32) × Nat × Nat) : (Nat → Int32) × Nat × Nat := (tkN s.1 s.2.1 n, (rmD (paidN s.1 s.2.1 n) n s.2.1 s.2.1).2.1, s.2.2 + (pyA s.1 (dueM s.1 s.2.1 n) n).2)
def tkI (n : Nat) (s : (Nat → Int32) × Nat × Nat) : Nat → (Nat → Int32) × Nat × Nat
  | 0 => s
  | t + 1 => tkS n (tkI n s t)
theorem rmD_k {N : Nat → Int32} {n V0 : Nat} (hV : N 8 = nI V0) (h2 : N 2 = nI n) (h1 : 1 ≤ V0) : ∀ d, d ≤ V0 → (rmD N n V0 d).1 8 = nI (rmD N n V0 d).2.1 ∧ (rmD N n V0 d).1 2 = nI n ∧ 1 ≤ (rmD N n V0 d).2.1 ∧ V0 - d ≤ (rmD N n V0 d).2.1 ∧ (rmD N n V0 d).2.1 ≤ V0 := by
  intro d
  induction d with
  | zero => intro _; exact ⟨hV, h2, h1, show V0 - 0 ≤ V0 from Nat.sub_le _ _, Nat.le_refl _⟩
  | succ d ih =>
    intro hd
    obtain ⟨a, b, c, e, f⟩ := ih (by omega)
    rw [rmD, rmS]
    by_cases q : olM (rmD N n V0 d).1 (rmD N n V0 d).2.1 (V0 - 1 - d) ∧ nI (cn (sbM (rmD N n V0 d).1 (rmD N n V0 d).2.1 (V0 - 1 - d) (nI 1)) n) = 0
    · rw [if_pos q]
      have h3 : 2 ≤ (rmD N n V0 d).2.1 := by
        rcases Nat.lt_or_ge 1 (rmD N n V0 d).2.1 with z | z
        · exact z
        · exfalso
          have e1 : (rmD N n V0 d).2.1 = 1 := by omega
          have q1 := q.1
          unfold olM at q1
          have := vA_lt (N := (rmD N n V0 d).1) (W := (rmD N n V0 d).2.1) (x := (rmD N n V0 d).1 (809 + 3 * (V0 - 1 - d) + 0)) (y := (rmD N n V0 d).1 0) (by omega)
          omega
      refine ⟨by simp [shK], ?_, by show 1 ≤ _ - 1; omega, by show _ ≤ _ - 1; omega, by show _ - 1 ≤ _; omega⟩
      dsimp only
      unfold shK
      rw [if_neg (by omega), if_neg (by omega)]
      exact b
    · rw [if_neg q]
      exact ⟨a, b, c, by omega, f⟩
theorem rmN_8 {N : Nat → Int32} {n V : Nat} (hV : N 8 = nI V) (h2 : N 2 = nI n) (h1 : 1 ≤ V) : rmN N n V 8 = nI (rmD N n V V).2.1 ∧ rmN N n V 2 = nI n ∧ 1 ≤ (rmD N n V V).2.1 ∧ (rmD N n V V).2.1 ≤ V := by
  obtain ⟨a, b, c, e, f⟩ := rmD_k hV h2 h1 V (Nat.le_refl _)
  refine ⟨?_, ?_, c, f⟩
  · unfold rmN; rw [upd_ne (by omega)]; exact a
  · unfold rmN; rw [upd_ne (by omega)]; exact b
theorem tkN_8 {N : Nat → Int32} {n V : Nat} (hV : N 8 = nI V) (h2 : N 2 = nI n) (h1 : 1 ≤ V) (hn : n ≤ 40) : tkN N V n 8 = nI (rmD (paidN N V n) n V V).2.1 ∧ tkN N V n 2 = nI n ∧ 1 ≤ (rmD (paidN N V n) n V V).2.1 ∧ (rmD (paidN N V n) n V V).2.1 ≤ V := by
  have p8 : paidN N V n 8 = nI V := by unfold paidN; rw [pyA_lo _ _ _ _ hn (by omega) (by omega)]; exact hV
  have p2 : paidN N V n 2 = nI n := by unfold paidN; rw [pyA_lo _ _ _ _ hn (by omega) (by omega)]; exact h2
  obtain ⟨a, b, c, f⟩ := rmN_8 p8 p2 h1
  refine ⟨?_, ?_, c, f⟩
  · unfold tkN; rw [upd_ne (by omega)]; exact a
  · unfold tkN; rw [upd_ne (by omega)]; exact b
def lsR (n r : Nat) : Nat → (Nat → Int32) × Nat × Nat → Nat → Nat
  | 0, _, t => t
  | k + 1, s, t => if s.1 (9 + 20 * r + 2) = 0 ∧ t ≤ 200 then lsR n r k (tkS n s) (t + 1) else t
theorem lsR_s {n r k t : Nat} {s : (Nat → Int32) × Nat × Nat} (hk : 0 < k) (h : s.1 (9 + 20 * r + 2) = 0) (ht : t ≤ 200) : lsR n r k s t = lsR n r (k - 1) (tkS n s) (t + 1) := by
  obtain ⟨q, rfl⟩ : ∃ q, k = q + 1 := ⟨k - 1, by omega⟩
  rw [lsR, if_pos ⟨h, ht⟩]; rfl
theorem lsR_z {n r k t : Nat} {s : (Nat → Int32) × Nat × Nat} (h : ¬ (s.1 (9 + 20 * r + 2) = 0 ∧ t ≤ 200)) : lsR n r k s t = t := by
  cases k with
  | zero => rfl
  | succ k => rw [lsR, if_neg h]

theorem pyA_le (N d : Nat → Int32) (n : Nat) : (pyA N d n).2 ≤ n := by
  induction n with
  | zero => exact Nat.le_refl _
  | succ n ih =>
    rw [pyA, pyS]
    split
    · split
      · show (pyA N d n).2 ≤ _; omega
      · show (pyA N d n).2 + 1 ≤ _; omega
    · split
      · show (pyA N d n).2 ≤ _; omega
      · omega
set_option maxHeartbeats 4000000 in
set_option maxRecDepth 100000 in
theorem c_X7_open (l : Launch) {D : va_G} {τ : Nat → ClassId} {ad : Nat → Nat} (hI : kInj ad) {G : Nat → Nat → Int32} {n L : Nat} {y : Int32} (hn : G 1 2 = nI n) (hn4 : n ≤ 40) (hL : G 0 2 = nI L) (hL4 : L ≤ 4) : kM l yX7_open cX7_open 4 (some .int) { frames := 2, cells := 0, slots := 0, locals := 45 } D τ ad [.ref (ad 0), .int y] G (fun v G' => if nI 0 ≤ y ∧ y ≤ nI 9999 then (if cn (fun r => if G 1 (9 + 20 * r + 2) = nI 0 then 1 else 0) n = 8 ∨ n = 40 then v = -3 ∧ G' = G else v = nI n ∧ G' = gs (gs (zrF (gs (recM G L) 1 2 (nI (n + 1))) n 20) 1 (9 + 20 * n + 0) (G 1 0)) 1 (9 + 20 * n + 1) y) else v = -2 ∧ G' = G) := by
  refine kMet (own := RX7) (by decide) rfl (Nat.le_of_ble_eq_true rfl) ?_
  intro p9 e9 s9 m9 args9 below9 meth9 c9 Q9 X hx hb hP hS hret ls hl
  have hPs := hP
  have hl : lv_has ls 4 [(0, .ref (ad 0)), (1, .int y)] := hl
  refine lv_iload_n hx hb dX7_open_0 rfl (lv_at hl 1 rfl) ?_
  refine lv_iconst (v := nI 0) hx hb dX7_open_1 (by decide) ?_
  refine lv_sipush (v := nI 9999) hx hb dX7_open_2 (by decide) ?_
  refine kcS X hP hS (c_X7_isIn l hI) v_X7_28 ⟨Nat.le_of_ble_eq_true rfl, Nat.le_of_ble_eq_true rfl, rfl, rfl⟩ rfl rfl (Nat.le_of_ble_eq_true rfl) hl.1 ⟨Nat.zero_le _, Nat.zero_le _⟩ dX7_open_5 (fun r_5 G_5 H locs hR hP hS => ?_)
  obtain ⟨rfl, hG_5⟩ := hR
  rw [hG_5] at hP
  clear hG_5
  first
    | refine kif_ne (tgt := 14) hx hb dX7_open_8 (by decide) (fun c_8 => ?_) (fun c_8 => ?_)
    | refine lv_if_ne (tgt := 14) hx hb dX7_open_8 (by decide) (fun c_8 => ?_) (fun c_8 => ?_)
  · skip
    refine lv_aload_n hx hb dX7_open_14 rfl (lv_at hl 0 rfl) ?_
    refine lv_iconst (v := nI 0) hx hb dX7_open_15 (by decide) ?_
    refine kcV X hP hS (c_X7_ofState l hI (by first | assumption | omega) (by first | assumption | omega)) oJ v_X7_85 ⟨Nat.le_of_ble_eq_true rfl, Nat.le_of_ble_eq_true rfl, rfl, rfl⟩ rfl rfl (Nat.le_of_ble_eq_true rfl) hl.1 ⟨Nat.zero_le _, Nat.zero_le _⟩ dX7_open_16 (fun r_16 G_16 H locs hR hP hS => ?_)
    obtain ⟨rfl, hG_16⟩ := hR
    rw [hG_16] at hP
    clear hG_16
    have hcn := cn_le (f := fun r => if G 1 (9 + 20 * r + 2) = nI 0 then 1 else 0) (n := n) (fun i _ => by split <;> omega)
    refine lv_bipush (v := nI 8) hx hb dX7_open_19 (by decide) ?_
    first
      | refine kic_eq (tgt := 35) hx hb dX7_open_21 (by decide) (by with_reducible rfl) (by with_reducible rfl) (by omega) (by omega) (fun c_21 => ?_) (fun c_21 => ?_)
      | refine lv_icmp_eq (tgt := 35) hx hb dX7_open_21 (by decide) (fun c_21 => ?_) (fun c_21 => ?_)
    · skip
      refine lv_bipush (v := (-3)) hx hb dX7_open_35 (by decide) ?_
      exact hret _ _ _ _ _ _ (by rw [if_pos c_8, if_pos (Or.inl c_21)]; exact ⟨rfl, rfl⟩) hP hS dX7_open_37
    · skip
      refine lv_aload_n hx hb dX7_open_24 rfl (lv_at hl 0 rfl) ?_
      refine kget X hP oJ g_X7_7 rfl dX7_open_25 ?_
      refine lv_iconst (v := nI 2) hx hb dX7_open_28 (by decide) ?_
      refine kiald X hP aJ1 (by omega) dX7_open_29 ?_
      rw [hn]
      refine lv_bipush (v := nI 40) hx hb dX7_open_30 (by decide) ?_
      first
        | refine kic_ne (tgt := 38) hx hb dX7_open_32 (by decide) (by with_reducible rfl) (by with_reducible rfl) (by omega) (by omega) (fun c_32 => ?_) (fun c_32 => ?_)
        | refine lv_icmp_ne (tgt := 38) hx hb dX7_open_32 (by decide) (fun c_32 => ?_) (fun c_32 => ?_)
      · skip
        refine lv_aload_n hx hb dX7_open_38 rfl (lv_at hl 0 rfl) ?_
        refine kcVv X hP hS (c_X7_records l hI hL hL4) oJ v_X7_51 ⟨Nat.le_of_ble_eq_true rfl, Nat.le_of_ble_eq_true rfl, rfl, rfl⟩ rfl rfl (Nat.le_of_ble_eq_true rfl) hl.1 ⟨Nat.zero_le _, Nat.zero_le _⟩ dX7_open_39 (fun G_39 H locs hR hP hS => ?_)
        subst hR
        refine lv_aload_n hx hb dX7_open_42 rfl (lv_at hl 0 rfl) ?_
        refine kget X hP oJ g_X7_7 rfl dX7_open_43 ?_
        refine lv_iconst (v := nI 2) hx hb dX7_open_46 (by decide) ?_
        refine kiald X hP aJ1 (by omega) dX7_open_47 ?_
        rw [recM_1, hn]
        refine kist hx hb dX7_open_48 rfl hl (by decide) (kp_2_2 rfl) (fun ls hl => ?_)
        refine lv_aload_n hx hb dX7_open_49 rfl (lv_at hl 0 rfl) ?_
        refine kget X hP oJ g_X7_7 rfl dX7_open_50 ?_
        refine lv_iconst (v := nI 2) hx hb dX7_open_53 (by decide) ?_
        refine lv_dup2_11 hx hb dX7_open_54 rfl rfl ?_
        refine kiald X hP aJ1 (by omega) dX7_open_55 ?_
        rw [recM_1, hn]
        refine lv_iconst (v := nI 1) hx hb dX7_open_56 (by decide) ?_
        first
          | refine kadd hx hb dX7_open_57 (by with_reducible rfl) (by with_reducible rfl) ?_
          | refine lv_iadd hx hb dX7_open_57 ?_
        refine kiast X hI hP hS aJ1 (by omega) dX7_open_58 (fun H locs hP hS => ?_)
        refine lv_iconst (v := nI 0) hx hb dX7_open_59 (by decide) ?_
        refine kist hx hb dX7_open_60 rfl hl (by decide) (kp_3_3 rfl) (fun ls hl => ?_)
        have lp_61 : ∀ (d : Nat) (i : Nat) (H : Heap) (locs : List Loc) (ls : Array Slot), (20 - i) < d → (i ≤ 20) → va_P D vwCl (kW τ ad (zrF (gs (recM G L) 1 2 (nI (n + 1))) n i)) H → va_S (kAd ad) s9.heap H locs → lv_has ls 4 [(0, .ref (ad 0)), (1, .int y), (2, .int (nI n)), (3, .int (nI i))] → W p9 l e9 { frames := 2, cells := 0, slots := 0, locals := 45 } s9 m9 args9 below9 meth9 c9 H locs 0 0 Q9 (F0 m9 61 ls []) := by
          intro d
          induction d with
          | zero => exact fun _ _ _ _ hd => absurd hd (Nat.not_lt_zero _)
          | succ d ih_61 =>
            intro i H locs ls hd iv_0 hP hS hl
            refine lv_iload_n hx hb dX7_open_61 rfl (lv_at hl 3 rfl) ?_
            refine lv_bipush (v := nI 20) hx hb dX7_open_62 (by decide) ?_
            first
              | refine kic_ge (tgt := 80) hx hb dX7_open_64 (by decide) (by with_reducible rfl) (by with_reducible rfl) (by omega) (by omega) (fun c_64 => ?_) (fun c_64 => ?_)
              | refine lv_icmp_ge (tgt := 80) hx hb dX7_open_64 (by decide) (fun c_64 => ?_) (fun c_64 => ?_)
            · skip
              refine lv_aload_n hx hb dX7_open_80 rfl (lv_at hl 0 rfl) ?_
              refine lv_iload_n hx hb dX7_open_81 rfl (lv_at hl 2 rfl) ?_
              refine lv_iconst (v := nI 0) hx hb dX7_open_82 (by decide) ?_
              refine lv_aload_n hx hb dX7_open_83 rfl (lv_at hl 0 rfl) ?_
              refine kget X hP oJ g_X7_7 rfl dX7_open_84 ?_
              refine lv_iconst (v := nI 0) hx hb dX7_open_87 (by decide) ?_
              refine kiald X hP aJ1 (by omega) dX7_open_88 ?_
              rw [show zrF (gs (recM G L) 1 2 (nI (n + 1))) n i 1 0 = G 1 0 from by unfold zrF; rw [if_neg (by omega), gs_row (by omega), recM_1]]
              refine kcVv X hP hS (c_X7_setsR l hI (by first | assumption | omega)) oJ v_X7_88 ⟨Nat.le_of_ble_eq_true rfl, Nat.le_of_ble_eq_true rfl, rfl, rfl⟩ rfl rfl (Nat.le_of_ble_eq_true rfl) hl.1 ⟨Nat.zero_le _, Nat.zero_le _⟩ dX7_open_89 (fun G_89 H locs hR hP hS => ?_)
              subst hR
              refine lv_aload_n hx hb dX7_open_92 rfl (lv_at hl 0 rfl) ?_
              refine lv_iload_n hx hb dX7_open_93 rfl (lv_at hl 2 rfl) ?_
              refine lv_iconst (v := nI 1) hx hb dX7_open_94 (by decide) ?_
              refine lv_iload_n hx hb dX7_open_95 rfl (lv_at hl 1 rfl) ?_
              refine kcVv X hP hS (c_X7_setsR l hI (by first | assumption | omega)) oJ v_X7_88 ⟨Nat.le_of_ble_eq_true rfl, Nat.le_of_ble_eq_true rfl, rfl, rfl⟩ rfl rfl (Nat.le_of_ble_eq_true rfl) hl.1 ⟨Nat.zero_le _, Nat.zero_le _⟩ dX7_open_96 (fun G_96 H locs hR hP hS => ?_)
              subst hR
              refine lv_iload_n hx hb dX7_open_99 rfl (lv_at hl 2 rfl) ?_
              exact hret _ _ _ _ _ _ (by rw [if_pos c_8, if_neg (fun z => z.elim c_21 c_32), show (20 : Nat) = i by omega]; exact ⟨rfl, rfl⟩) hP hS dX7_open_100
            · skip
              refine lv_aload_n hx hb dX7_open_67 rfl (lv_at hl 0 rfl) ?_
              refine lv_iload_n hx hb dX7_open_68 rfl (lv_at hl 2 rfl) ?_
              refine lv_iload_n hx hb dX7_open_69 rfl (lv_at hl 3 rfl) ?_
              refine lv_iconst (v := nI 0) hx hb dX7_open_70 (by decide) ?_
              refine kcVv X hP hS (c_X7_setsR l hI (by first | assumption | omega)) oJ v_X7_88 ⟨Nat.le_of_ble_eq_true rfl, Nat.le_of_ble_eq_true rfl, rfl, rfl⟩ rfl rfl (Nat.le_of_ble_eq_true rfl) hl.1 ⟨Nat.zero_le _, Nat.zero_le _⟩ dX7_open_71 (fun G_71 H locs hR hP hS => ?_)
              subst hR
              first
                | refine kinc (q := 3) hx hb dX7_open_74 hl rfl (by decide) (kp_4_3 rfl) (fun ls hl => ?_)
                | refine kincG (q := 3) hx hb dX7_open_74 hl rfl (by decide) (kp_4_3 rfl) (fun ls hl => ?_)
              refine lv_goto (tgt := 61) hx hb dX7_open_77 (by decide) ?_
              rw [zrF_s] at hP
              exact ih_61 _ _ _ _ (by omega) (by omega) hP hS (lv_sub hl [0,1,2,3] rfl)
        rw [← zrF_0 (gs (recM G L) 1 2 (nI (n + 1))) n] at hP
        exact lp_61 _ 0 _ _ _ (Nat.lt_succ_self _) (Nat.zero_le _) hP hS (lv_sub hl [0,1,2,3] rfl)
      · skip
        refine lv_bipush (v := (-3)) hx hb dX7_open_35 (by decide) ?_
        exact hret _ _ _ _ _ _ (by rw [if_pos c_8, if_pos (Or.inr c_32)]; exact ⟨rfl, rfl⟩) hP hS dX7_open_37
  · skip
    refine lv_bipush (v := (-2)) hx hb dX7_open_11 (by decide) ?_
    exact hret _ _ _ _ _ _ (by rw [if_neg c_8]; exact ⟨rfl, rfl⟩) hP hS dX7_open_13

set_option maxHeartbeats 4000000 in
set_option maxRecDepth 100000 in
theorem c_X7_tick (l : Launch) {D : va_G} {τ : Nat → ClassId} {ad : Nat → Nat} (hI : kInj ad) {G : Nat → Nat → Int32} {Wn n L : Nat} {y : Int32} (hW : G 1 8 = nI Wn) (hW1 : 1 ≤ Wn) (hW6 : Wn ≤ 64) (hn : G 1 2 = nI n) (hn4 : n ≤ 40) (hL : G 0 2 = nI L) (hL4 : L ≤ 4) : kM l yX7_tick cX7_tick 4 (some .int) { frames := 7, cells := 0, slots := 0, locals := 161 } D τ ad [.ref (ad 0), .int y] G (fun v G' => if nI 1 ≤ y ∧ y ≤ nI 60 then v = nI (tkI n (G 1, Wn, 0) y.toNatClampNeg).2.2 ∧ G' 1 = (tkI n (G 1, Wn, 0) y.toNatClampNeg).1 ∧ ∀ q, q ≠ 1 → q ≠ 6 → G' q = recM G L q else v = -2 ∧ G' = G) := by
  refine kMet (own := RX7) (by decide) rfl (Nat.le_of_ble_eq_true rfl) ?_
  intro p9 e9 s9 m9 args9 below9 meth9 c9 Q9 X hx hb hP hS hret ls hl
  have hPs := hP
  have hl : lv_has ls 4 [(0, .ref (ad 0)), (1, .int y)] := hl
  refine lv_iload_n hx hb dX7_tick_0 rfl (lv_at hl 1 rfl) ?_
  refine lv_iconst (v := nI 1) hx hb dX7_tick_1 (by decide) ?_
  refine lv_bipush (v := nI 60) hx hb dX7_tick_2 (by decide) ?_
  refine kcS X hP hS (c_X7_isIn l hI) v_X7_28 ⟨Nat.le_of_ble_eq_true rfl, Nat.le_of_ble_eq_true rfl, rfl, rfl⟩ rfl rfl (Nat.le_of_ble_eq_true rfl) hl.1 ⟨Nat.zero_le _, Nat.zero_le _⟩ dX7_tick_4 (fun r_4 G_4 H locs hR hP hS => ?_)
  obtain ⟨rfl, hG_4⟩ := hR
  rw [hG_4] at hP
  clear hG_4
  first
    | refine kif_ne (tgt := 13) hx hb dX7_tick_7 (by decide) (fun c_7 => ?_) (fun c_7 => ?_)
    | refine lv_if_ne (tgt := 13) hx hb dX7_tick_7 (by decide) (fun c_7 => ?_) (fun c_7 => ?_)
  · skip
    obtain ⟨T, hT1, rfl⟩ : ∃ T, T ≤ 60 ∧ y = nI T := by
      obtain ⟨q, q1, q2⟩ := nI_of2 (x := y) (M := nI 60) (n := 60) rfl (fun z => absurd (Int32.lt_of_le_of_lt c_7.1 z) (by decide)) c_7.2
      exact ⟨q, q1, q2⟩
    refine lv_aload_n hx hb dX7_tick_13 rfl (lv_at hl 0 rfl) ?_
    refine kcVv X hP hS (c_X7_records l hI hL hL4) oJ v_X7_51 ⟨Nat.le_of_ble_eq_true rfl, Nat.le_of_ble_eq_true rfl, rfl, rfl⟩ rfl rfl (Nat.le_of_ble_eq_true rfl) hl.1 ⟨Nat.zero_le _, Nat.zero_le _⟩ dX7_tick_14 (fun G_14 H locs hR hP hS => ?_)
    subst hR
    refine lv_iconst (v := nI 0) hx hb dX7_tick_17 (by decide) ?_
    refine kist hx hb dX7_tick_18 rfl hl (by decide) (kp_2_2 rfl) (fun ls hl => ?_)
    refine lv_iconst (v := nI 0) hx hb dX7_tick_19 (by decide) ?_
    refine kist hx hb dX7_tick_20 rfl hl (by decide) (kp_3_3 rfl) (fun ls hl => ?_)
    have lp_21 : ∀ (d : Nat) (x i : Nat) (s : (Nat → Int32) × Nat × Nat) (G1 : Nat → Nat → Int32) (H : Heap) (locs : List Loc) (ls : Array Slot), (T - i) < d → (i ≤ T) → (s = tkI n (G 1, Wn, 0) i) → ((∀ q, q ≠ 1 → q ≠ 6 → G1 q = recM G L q) ∧ G1 1 = s.1) → (s.1 8 = nI s.2.1 ∧ s.1 2 = nI n ∧ 1 ≤ s.2.1 ∧ s.2.1 ≤ 64) → (x = s.2.2) → va_P D vwCl (kW τ ad G1) H → va_S (kAd ad) s9.heap H locs → lv_has ls 4 [(0, .ref (ad 0)), (1, .int (nI T)), (2, .int (nI x)), (3, .int (nI i))] → W p9 l e9 { frames := 7, cells := 0, slots := 0, locals := 161 } s9 m9 args9 below9 meth9 c9 H locs 0 0 Q9 (F0 m9 21 ls []) := by
      intro d
      induction d with
      | zero => exact fun _ _ _ _ _ _ _ hd => absurd hd (Nat.not_lt_zero _)
      | succ d ih_21 =>
        intro x i s G1 H locs ls hd iv_0 iv_1 iv_2 iv_3 iv_4 hP hS hl
        refine lv_iload_n hx hb dX7_tick_21 rfl (lv_at hl 3 rfl) ?_
        refine lv_iload_n hx hb dX7_tick_22 rfl (lv_at hl 1 rfl) ?_
        first
          | refine kic_ge (tgt := 39) hx hb dX7_tick_23 (by decide) (by with_reducible rfl) (by with_reducible rfl) (by omega) (by omega) (fun c_23 => ?_) (fun c_23 => ?_)
          | refine lv_icmp_ge (tgt := 39) hx hb dX7_tick_23 (by decide) (fun c_23 => ?_) (fun c_23 => ?_)
        · skip
          refine lv_iload_n hx hb dX7_tick_39 rfl (lv_at hl 2 rfl) ?_
          exact hret _ _ _ _ _ _ (by rw [if_pos c_7, nI_clamp (by omega), show T = i by omega, ← iv_1]; exact ⟨by rw [iv_4], iv_2.2, iv_2.1⟩) hP hS dX7_tick_40
        · skip
          refine lv_iload_n hx hb dX7_tick_26 rfl (lv_at hl 2 rfl) ?_
          refine lv_aload_n hx hb dX7_tick_27 rfl (lv_at hl 0 rfl) ?_
          refine kcV X hP hS (c_X7_passes l hI (Wn := s.2.1) (n := n) (by rw [iv_2.2]; exact iv_3.1) iv_3.2.2.1 iv_3.2.2.2 (by rw [iv_2.2]; exact iv_3.2.1) hn4) oJ v_X7_105 ⟨Nat.le_of_ble_eq_true rfl, Nat.le_of_ble_eq_true rfl, rfl, rfl⟩ rfl rfl (Nat.le_of_ble_eq_true rfl) hl.1 ⟨Nat.zero_le _, Nat.zero_le _⟩ dX7_tick_28 (fun r_28 G_28 H locs hR hP hS => ?_)
          obtain ⟨rfl, hG_28⟩ := hR
          rw [iv_2.2] at hG_28 ⊢
          first
            | refine kadd hx hb dX7_tick_31 (by with_reducible rfl) (by with_reducible rfl) ?_
            | refine lv_iadd hx hb dX7_tick_31 ?_
          refine kist hx hb dX7_tick_32 rfl hl (by decide) (kp_4_2 rfl) (fun ls hl => ?_)
          first
            | refine kinc (q := 3) hx hb dX7_tick_33 hl rfl (by decide) (kp_4_3 rfl) (fun ls hl => ?_)
            | refine kincG (q := 3) hx hb dX7_tick_33 hl rfl (by decide) (kp_4_3 rfl) (fun ls hl => ?_)
          refine lv_goto (tgt := 21) hx hb dX7_tick_36 (by decide) ?_
          exact ih_21 _ _ (tkS n s) G_28 _ _ _ (by omega) (by omega) (by rw [iv_1]; rfl) (⟨fun q h1 h6 => by rw [hG_28, rw1_o h1]; unfold duR; funext f; rw [if_neg (by omega), iv_2.1 q h1 h6], by rw [hG_28, rw1_1]; rfl⟩) (by obtain ⟨a, b, c, d⟩ := tkN_8 iv_3.1 iv_3.2.1 iv_3.2.2.1 hn4; exact ⟨a, b, c, Nat.le_trans d iv_3.2.2.2⟩) (by rw [iv_4]; rfl) hP hS (lv_sub hl [0,1,2,3] rfl)
    exact lp_21 _ 0 0 (G 1, Wn, 0) (recM G L) _ _ _ (Nat.lt_succ_self _) (Nat.zero_le _) (rfl) (⟨fun _ _ _ => rfl, recM_1⟩) (⟨hW, hn, hW1, hW6⟩) (rfl) hP hS (lv_sub hl [0,1,2,3] rfl)
  · skip
    refine lv_bipush (v := (-2)) hx hb dX7_tick_10 (by decide) ?_
    exact hret _ _ _ _ _ _ (by rw [if_neg c_7]; exact ⟨rfl, rfl⟩) hP hS dX7_tick_12

set_option maxHeartbeats 4000000 in
set_option maxRecDepth 100000 in
theorem c_X7_lasts (l : Launch) {D : va_G} {τ : Nat → ClassId} {ad : Nat → Nat} (hI : kInj ad) {G : Nat → Nat → Int32} {Wn n : Nat} {x : Int32} (hW : G 1 8 = nI Wn) (hW1 : 1 ≤ Wn) (hW6 : Wn ≤ 64) (hn : G 1 2 = nI n) (hn4 : n ≤ 40) : kM l yX7_lasts cX7_lasts 3 (some .int) { frames := 7, cells := 0, slots := 0, locals := 161 } D τ ad [.ref (ad 0), .int x] G (fun v G' => rdP n x (v = -1 ∧ G' = G) (fun r => if G 1 (9 + 20 * r + 2) = 0 then v = (if 200 < lsR n r 202 (G 1, Wn, 0) 0 then -5 else nI (lsR n r 202 (G 1, Wn, 0) 0)) ∧ (∀ q, q ≠ 1 → q ≠ 2 → q ≠ 6 → G' q = G q) ∧ (∀ f, f < 1201 → G' 1 f = G 1 f) ∧ ∀ f, f < 6005 → G' 2 f = G 2 f else v = -4 ∧ G' = G)) := by
  refine kMet (own := RX7) (by decide) rfl (Nat.le_of_ble_eq_true rfl) ?_
  intro p9 e9 s9 m9 args9 below9 meth9 c9 Q9 X hx hb hP hS hret ls hl
  have hPs := hP
  have hl : lv_has ls 3 [(0, .ref (ad 0)), (1, .int x)] := hl
  refine lv_aload_n hx hb dX7_lasts_0 rfl (lv_at hl 0 rfl) ?_
  refine lv_iload_n hx hb dX7_lasts_1 rfl (lv_at hl 1 rfl) ?_
  refine kcV X hP hS (c_X7_isReader l hI) oJ v_X7_92 ⟨Nat.le_of_ble_eq_true rfl, Nat.le_of_ble_eq_true rfl, rfl, rfl⟩ rfl rfl (Nat.le_of_ble_eq_true rfl) hl.1 ⟨Nat.zero_le _, Nat.zero_le _⟩ dX7_lasts_2 (fun r_2 G_2 H locs hR hP hS => ?_)
  obtain ⟨rfl, hG_2⟩ := hR
  rw [hG_2] at hP
  clear hG_2
  first
    | refine kif_ne (tgt := 10) hx hb dX7_lasts_5 (by decide) (fun c_5 => ?_) (fun c_5 => ?_)
    | refine lv_if_ne (tgt := 10) hx hb dX7_lasts_5 (by decide) (fun c_5 => ?_) (fun c_5 => ?_)
  · skip
    obtain ⟨r, hr, rfl⟩ := isR_yes hn4 (by rw [hn] at c_5; exact c_5)
    refine lv_aload_n hx hb dX7_lasts_10 rfl (lv_at hl 0 rfl) ?_
    refine lv_iload_n hx hb dX7_lasts_11 rfl (lv_at hl 1 rfl) ?_
    refine kcV X hP hS (c_X7_isOpen l hI (by first | assumption | omega)) oJ v_X7_64 ⟨Nat.le_of_ble_eq_true rfl, Nat.le_of_ble_eq_true rfl, rfl, rfl⟩ rfl rfl (Nat.le_of_ble_eq_true rfl) hl.1 ⟨Nat.zero_le _, Nat.zero_le _⟩ dX7_lasts_12 (fun r_12 G_12 H locs hR hP hS => ?_)
    obtain ⟨rfl, hG_12⟩ := hR
    rw [hG_12] at hP
    clear hG_12
    first
      | refine kif_ne (tgt := 21) hx hb dX7_lasts_15 (by decide) (fun c_15 => ?_) (fun c_15 => ?_)
      | refine lv_if_ne (tgt := 21) hx hb dX7_lasts_15 (by decide) (fun c_15 => ?_) (fun c_15 => ?_)
    · skip
      refine lv_aload_n hx hb dX7_lasts_21 rfl (lv_at hl 0 rfl) ?_
      refine lv_iconst (v := nI 5) hx hb dX7_lasts_22 (by decide) ?_
      refine kcVv X hP hS (c_X7_keeps l hI (by omega)) oJ v_X7_40 ⟨Nat.le_of_ble_eq_true rfl, Nat.le_of_ble_eq_true rfl, rfl, rfl⟩ rfl rfl (Nat.le_of_ble_eq_true rfl) hl.1 ⟨Nat.zero_le _, Nat.zero_le _⟩ dX7_lasts_23 (fun G_23 H locs hR hP hS => ?_)
      subst hR
      refine lv_iconst (v := nI 0) hx hb dX7_lasts_26 (by decide) ?_
      refine kist hx hb dX7_lasts_27 rfl hl (by decide) (kp_2_2 rfl) (fun ls hl => ?_)
      have lp_28 : ∀ (d : Nat) (t : Nat) (s : (Nat → Int32) × Nat × Nat) (G1 : Nat → Nat → Int32) (H : Heap) (locs : List Loc) (ls : Array Slot), (202 - t) < d → (t ≤ 201) → (lsR n r 202 (G 1, Wn, 0) 0 = lsR n r (202 - t) s t) → ((∀ q, q ≠ 1 → q ≠ 6 → G1 q = kpF G 5 1201 q) ∧ G1 1 = s.1) → (s.1 8 = nI s.2.1 ∧ s.1 2 = nI n ∧ 1 ≤ s.2.1 ∧ s.2.1 ≤ 64) → va_P D vwCl (kW τ ad G1) H → va_S (kAd ad) s9.heap H locs → lv_has ls 3 [(0, .ref (ad 0)), (1, .int (nI r)), (2, .int (nI t))] → W p9 l e9 { frames := 7, cells := 0, slots := 0, locals := 161 } s9 m9 args9 below9 meth9 c9 H locs 0 0 Q9 (F0 m9 28 ls []) := by
        intro d
        induction d with
        | zero => exact fun _ _ _ _ _ _ hd => absurd hd (Nat.not_lt_zero _)
        | succ d ih_28 =>
          intro t s G1 H locs ls hd iv_0 iv_1 iv_2 iv_3 hP hS hl
          refine lv_aload_n hx hb dX7_lasts_28 rfl (lv_at hl 0 rfl) ?_
          refine lv_iload_n hx hb dX7_lasts_29 rfl (lv_at hl 1 rfl) ?_
          refine kcV X hP hS (c_X7_isOpen l hI (by first | assumption | omega)) oJ v_X7_64 ⟨Nat.le_of_ble_eq_true rfl, Nat.le_of_ble_eq_true rfl, rfl, rfl⟩ rfl rfl (Nat.le_of_ble_eq_true rfl) hl.1 ⟨Nat.zero_le _, Nat.zero_le _⟩ dX7_lasts_30 (fun r_30 G_30 H locs hR hP hS => ?_)
          obtain ⟨rfl, hG_30⟩ := hR
          rw [hG_30] at hP
          clear hG_30
          rw [iv_2.2]
          first
            | refine kif_eq (tgt := 61) hx hb dX7_lasts_33 (by decide) (fun c_33 => ?_) (fun c_33 => ?_)
            | refine lv_if_eq (tgt := 61) hx hb dX7_lasts_33 (by decide) (fun c_33 => ?_) (fun c_33 => ?_)
          · skip
            refine lv_aload_n hx hb dX7_lasts_61 rfl (lv_at hl 0 rfl) ?_
            refine lv_iconst (v := nI 5) hx hb dX7_lasts_62 (by decide) ?_
            refine kcVv X hP hS (c_X7_brings l hI (by omega)) oJ v_X7_44 ⟨Nat.le_of_ble_eq_true rfl, Nat.le_of_ble_eq_true rfl, rfl, rfl⟩ rfl rfl (Nat.le_of_ble_eq_true rfl) hl.1 ⟨Nat.zero_le _, Nat.zero_le _⟩ dX7_lasts_63 (fun G_63 H locs hR hP hS => ?_)
            subst hR
            refine lv_iload_n hx hb dX7_lasts_66 rfl (lv_at hl 2 rfl) ?_
            refine lv_sipush (v := nI 200) hx hb dX7_lasts_67 (by decide) ?_
            first
              | refine kic_le (tgt := 78) hx hb dX7_lasts_70 (by decide) (by with_reducible rfl) (by with_reducible rfl) (by omega) (by omega) (fun c_70 => ?_) (fun c_70 => ?_)
              | refine lv_icmp_le (tgt := 78) hx hb dX7_lasts_70 (by decide) (fun c_70 => ?_) (fun c_70 => ?_)
            · skip
              refine lv_iload_n hx hb dX7_lasts_78 rfl (lv_at hl 2 rfl) ?_
              exact hret _ _ _ _ _ _ (rdP_h hr hn4 (by
                      have hl : lsR n r 202 (G 1, Wn, 0) 0 = t := iv_1.trans (lsR_z (fun z => c_33 z.1))
                      rw [if_pos c_15, hl, if_neg (by omega)]
                      exact ⟨rfl, fun q h1 h2 h6 => by
                        funext f
                        unfold brF
                        rw [if_neg (by omega), iv_2.1 q h1 h6]; unfold kpF; rw [if_neg (by omega)], fun f hf => by
                        unfold brF
                        rw [if_pos ⟨rfl, hf⟩, iv_2.1 2 (by omega) (by omega)]; unfold kpF; rw [if_pos (by omega), show 5 * 1201 + f - 5 * 1201 = f by omega], fun f hf => by
                        unfold brF
                        rw [if_neg (by omega), iv_2.1 2 (by omega) (by omega)]; unfold kpF; rw [if_neg (by omega)]⟩)) hP hS dX7_lasts_79
            · skip
              refine lv_bipush (v := (-5)) hx hb dX7_lasts_73 (by decide) ?_
              refine lv_goto (tgt := 79) hx hb dX7_lasts_75 (by decide) ?_
              exact hret _ _ _ _ _ _ (rdP_h hr hn4 (by
                      have hl : lsR n r 202 (G 1, Wn, 0) 0 = t := iv_1.trans (lsR_z (fun z => c_33 z.1))
                      rw [if_pos c_15, hl, if_pos (by omega)]
                      exact ⟨rfl, fun q h1 h2 h6 => by
                        funext f
                        unfold brF
                        rw [if_neg (by omega), iv_2.1 q h1 h6]; unfold kpF; rw [if_neg (by omega)], fun f hf => by
                        unfold brF
                        rw [if_pos ⟨rfl, hf⟩, iv_2.1 2 (by omega) (by omega)]; unfold kpF; rw [if_pos (by omega), show 5 * 1201 + f - 5 * 1201 = f by omega], fun f hf => by
                        unfold brF
                        rw [if_neg (by omega), iv_2.1 2 (by omega) (by omega)]; unfold kpF; rw [if_neg (by omega)]⟩)) hP hS dX7_lasts_79
          · skip
            refine lv_iload_n hx hb dX7_lasts_36 rfl (lv_at hl 2 rfl) ?_
            refine lv_sipush (v := nI 200) hx hb dX7_lasts_37 (by decide) ?_
            first
              | refine kic_gt (tgt := 61) hx hb dX7_lasts_40 (by decide) (by with_reducible rfl) (by with_reducible rfl) (by omega) (by omega) (fun c_40 => ?_) (fun c_40 => ?_)
              | refine lv_icmp_gt (tgt := 61) hx hb dX7_lasts_40 (by decide) (fun c_40 => ?_) (fun c_40 => ?_)
            · skip
              refine lv_aload_n hx hb dX7_lasts_61 rfl (lv_at hl 0 rfl) ?_
              refine lv_iconst (v := nI 5) hx hb dX7_lasts_62 (by decide) ?_
              refine kcVv X hP hS (c_X7_brings l hI (by omega)) oJ v_X7_44 ⟨Nat.le_of_ble_eq_true rfl, Nat.le_of_ble_eq_true rfl, rfl, rfl⟩ rfl rfl (Nat.le_of_ble_eq_true rfl) hl.1 ⟨Nat.zero_le _, Nat.zero_le _⟩ dX7_lasts_63 (fun G_63 H locs hR hP hS => ?_)
              subst hR
              refine lv_iload_n hx hb dX7_lasts_66 rfl (lv_at hl 2 rfl) ?_
              refine lv_sipush (v := nI 200) hx hb dX7_lasts_67 (by decide) ?_
              first
                | refine kic_le (tgt := 78) hx hb dX7_lasts_70 (by decide) (by with_reducible rfl) (by with_reducible rfl) (by omega) (by omega) (fun c_70 => ?_) (fun c_70 => ?_)
                | refine lv_icmp_le (tgt := 78) hx hb dX7_lasts_70 (by decide) (fun c_70 => ?_) (fun c_70 => ?_)
              · skip
                refine lv_iload_n hx hb dX7_lasts_78 rfl (lv_at hl 2 rfl) ?_
                exact hret _ _ _ _ _ _ (rdP_h hr hn4 (by
                        have hl : lsR n r 202 (G 1, Wn, 0) 0 = t := iv_1.trans (lsR_z (fun z => absurd z.2 (by omega)))
                        rw [if_pos c_15, hl, if_neg (by omega)]
                        exact ⟨rfl, fun q h1 h2 h6 => by
                          funext f
                          unfold brF
                          rw [if_neg (by omega), iv_2.1 q h1 h6]; unfold kpF; rw [if_neg (by omega)], fun f hf => by
                          unfold brF
                          rw [if_pos ⟨rfl, hf⟩, iv_2.1 2 (by omega) (by omega)]; unfold kpF; rw [if_pos (by omega), show 5 * 1201 + f - 5 * 1201 = f by omega], fun f hf => by
                          unfold brF
                          rw [if_neg (by omega), iv_2.1 2 (by omega) (by omega)]; unfold kpF; rw [if_neg (by omega)]⟩)) hP hS dX7_lasts_79
              · skip
                refine lv_bipush (v := (-5)) hx hb dX7_lasts_73 (by decide) ?_
                refine lv_goto (tgt := 79) hx hb dX7_lasts_75 (by decide) ?_
                exact hret _ _ _ _ _ _ (rdP_h hr hn4 (by
                        have hl : lsR n r 202 (G 1, Wn, 0) 0 = t := iv_1.trans (lsR_z (fun z => absurd z.2 (by omega)))
                        rw [if_pos c_15, hl, if_pos (by omega)]
                        exact ⟨rfl, fun q h1 h2 h6 => by
                          funext f
                          unfold brF
                          rw [if_neg (by omega), iv_2.1 q h1 h6]; unfold kpF; rw [if_neg (by omega)], fun f hf => by
                          unfold brF
                          rw [if_pos ⟨rfl, hf⟩, iv_2.1 2 (by omega) (by omega)]; unfold kpF; rw [if_pos (by omega), show 5 * 1201 + f - 5 * 1201 = f by omega], fun f hf => by
                          unfold brF
                          rw [if_neg (by omega), iv_2.1 2 (by omega) (by omega)]; unfold kpF; rw [if_neg (by omega)]⟩)) hP hS dX7_lasts_79
            · skip
              refine lv_iload_n hx hb dX7_lasts_43 rfl (lv_at hl 2 rfl) ?_
              refine lv_aload_n hx hb dX7_lasts_44 rfl (lv_at hl 0 rfl) ?_
              refine kcV X hP hS (c_X7_passes l hI (Wn := s.2.1) (n := n) (by rw [iv_2.2]; exact iv_3.1) iv_3.2.2.1 iv_3.2.2.2 (by rw [iv_2.2]; exact iv_3.2.1) hn4) oJ v_X7_105 ⟨Nat.le_of_ble_eq_true rfl, Nat.le_of_ble_eq_true rfl, rfl, rfl⟩ rfl rfl (Nat.le_of_ble_eq_true rfl) hl.1 ⟨Nat.zero_le _, Nat.zero_le _⟩ dX7_lasts_45 (fun r_45 G_45 H locs hR hP hS => ?_)
              obtain ⟨rfl, hG_45⟩ := hR
              have hpl := pyA_le (G1 1) (dueM (G1 1) s.2.1 n) n
              refine lv_if_ge (tgt := 55) hx hb dX7_lasts_48 (by decide) (fun c_48 => ?_) (fun c_48 => ?_)
              · skip
                refine lv_iconst (v := nI 1) hx hb dX7_lasts_55 (by decide) ?_
                first
                  | refine kadd hx hb dX7_lasts_56 (by with_reducible rfl) (by with_reducible rfl) ?_
                  | refine lv_iadd hx hb dX7_lasts_56 ?_
                refine kist hx hb dX7_lasts_57 rfl hl (by decide) (kp_3_2 rfl) (fun ls hl => ?_)
                refine lv_goto (tgt := 28) hx hb dX7_lasts_58 (by decide) ?_
                exact ih_28 _ (tkS n s) G_45 _ _ _ (by omega) (by omega) (by rw [iv_1, lsR_s (by omega) c_33 c_40, show 202 - t - 1 = 202 - (t + 1) by omega]) (⟨fun q h1 h6 => by rw [hG_45, rw1_o h1]; unfold duR; funext f; rw [if_neg (by omega), iv_2.1 q h1 h6], by rw [hG_45, rw1_1, iv_2.2]; rfl⟩) (by obtain ⟨a, b, c, d⟩ := tkN_8 iv_3.1 iv_3.2.1 iv_3.2.2.1 hn4; exact ⟨a, b, c, Nat.le_trans d iv_3.2.2.2⟩) hP hS (lv_sub hl [0,1,2] rfl)
              · skip
                exact absurd (nI_pos' (by have := pyA_le (G1 1) (dueM (G1 1) s.2.1 n) n; omega)) c_48
      exact lp_28 _ 0 (G 1, Wn, 0) (kpF G 5 1201) _ _ _ (Nat.lt_succ_self _) (Nat.zero_le _) (rfl) (⟨fun _ _ _ => rfl, by funext f; unfold kpF; rw [if_neg (by omega)]⟩) (⟨hW, hn, hW1, hW6⟩) hP hS (lv_sub hl [0,1,2] rfl)
    · skip
      refine lv_bipush (v := (-4)) hx hb dX7_lasts_18 (by decide) ?_
      exact hret _ _ _ _ _ _ (rdP_h hr hn4 (by rw [if_neg c_15]; exact ⟨rfl, rfl⟩)) hP hS dX7_lasts_20
  · skip
    have hms := isR_no hn4 (by rw [hn] at c_5; exact c_5)
    refine lv_iconst (v := (-1)) hx hb dX7_lasts_8 (by decide) ?_
    exact hret _ _ _ _ _ _ (rdP_m hms ⟨rfl, rfl⟩) hP hS dX7_lasts_9
