
/-- the table without its row v, while it is moved: kk ints are done -/
def shK (N : Nat → Int32) (V v kk : Nat) : Nat → Int32 := fun f => if f = 8 then nI (V - 1) else if 809 + 3 * v ≤ f ∧ f < 809 + kk then N (f + 3) else N f
theorem shK_0 (N : Nat → Int32) (V v : Nat) : upd N 8 (nI (V - 1)) = shK N V v (3 * v) := by
  funext f
  unfold upd shK
  by_cases h : f = 8
  · rw [if_pos h, if_pos h]
  · rw [if_neg h, if_neg h, if_neg (by omega)]
theorem shK_s {N : Nat → Int32} {V v kk : Nat} (h : 3 * v ≤ kk) : upd (shK N V v kk) (809 + kk) (shK N V v kk (809 + kk + 3)) = shK N V v (kk + 1) := by
  funext f
  have e : shK N V v kk (809 + kk + 3) = N (809 + kk + 3) := by unfold shK; rw [if_neg (by omega), if_neg (by omega)]
  rw [e]
  unfold upd shK
  by_cases h8 : f = 8
  · rw [if_neg (by omega), if_pos h8, if_pos h8]
  · rw [if_neg h8, if_neg h8]
    by_cases h1 : f = 809 + kk
    · rw [if_pos h1, if_pos (by omega), h1]
    · rw [if_neg h1]
      by_cases h2 : 809 + 3 * v ≤ f ∧ f < 809 + kk
      · rw [if_pos h2, if_pos (by omega)]
      · rw [if_neg h2, if_neg (by omega)]
def rmS (n : Nat) (s : (Nat → Int32) × Nat × Nat) (v : Nat) : (Nat → Int32) × Nat × Nat :=
  if olM s.1 s.2.1 v ∧ nI (cn (sbM s.1 s.2.1 v (nI 1)) n) = 0 then (shK s.1 s.2.1 v (3 * (s.2.1 - 1)), s.2.1 - 1, s.2.2 + 1) else s
/-- the rows from the last on, d of them -/
def rmD (N : Nat → Int32) (n V0 : Nat) : Nat → (Nat → Int32) × Nat × Nat
  | 0 => (N, V0, 0)
  | d + 1 => rmS n (rmD N n V0 d) (V0 - 1 - d)
theorem rmS_z {n : Nat} {N : Nat → Int32} {V c v : Nat} (h : ¬ (olM N V v ∧ nI (cn (sbM N V v (nI 1)) n) = 0)) : rmS n (N, V, c) v = (N, V, c) := if_neg h
theorem rmS_p {n : Nat} {N : Nat → Int32} {V c v : Nat} (h : olM N V v ∧ nI (cn (sbM N V v (nI 1)) n) = 0) : rmS n (N, V, c) v = (shK N V v (3 * (V - 1)), V - 1, c + 1) := if_pos h
theorem rmD_s {N N1 : Nat → Int32} {n V0 V1 c v : Nat} {s : (Nat → Int32) × Nat × Nat} (h : (N1, V1, c) = rmD N n V0 (V0 - (v + 1))) (hv : v + 1 ≤ V0) (hs : rmS n (N1, V1, c) v = s) : s = rmD N n V0 (V0 - v) := by
  rw [show V0 - v = (V0 - (v + 1)) + 1 by omega, rmD, ← h, show V0 - 1 - (V0 - (v + 1)) = v by omega, hs]
/-- all that removes() does -/
def rmN (N : Nat → Int32) (n V : Nat) : Nat → Int32 := upd (rmD N n V V).1 3 ((rmD N n V V).1 3 + nI (rmD N n V V).2.2)
set_option maxHeartbeats 4000000 in
set_option maxRecDepth 100000 in
theorem c_X7_removes (l : Launch) {D : va_G} {τ : Nat → ClassId} {ad : Nat → Nat} (hI : kInj ad) {G : Nat → Nat → Int32} {Wn n : Nat} (hW : G 1 8 = nI Wn) (hW1 : 1 ≤ Wn) (hW6 : Wn ≤ 64) (hn : G 1 2 = nI n) (hn4 : n ≤ 40) : kM l yX7_removes cX7_removes 4 (some .int) { frames := 4, cells := 0, slots := 0, locals := 94 } D τ ad [.ref (ad 0)] G (fun v G' => v = nI (rmD (G 1) n Wn Wn).2.2 ∧ G' = rw1 G (rmN (G 1) n Wn)) := by
  refine kMet (own := RX7) (by decide) rfl (Nat.le_of_ble_eq_true rfl) ?_
  intro p9 e9 s9 m9 args9 below9 meth9 c9 Q9 X hx hb hP hS hret ls hl
  have hPs := hP
  have hl : lv_has ls 4 [(0, .ref (ad 0))] := hl
  refine lv_iconst (v := nI 0) hx hb dX7_removes_0 (by decide) ?_
  refine kist hx hb dX7_removes_1 rfl hl (by decide) (kp_1_1 rfl) (fun ls hl => ?_)
  refine lv_aload_n hx hb dX7_removes_2 rfl (lv_at hl 0 rfl) ?_
  refine kget X hP oJ g_X7_7 rfl dX7_removes_3 ?_
  refine lv_bipush (v := nI 8) hx hb dX7_removes_6 (by decide) ?_
  refine kiald X hP aJ1 (by omega) dX7_removes_8 ?_
  rw [hW]
  refine lv_iconst (v := nI 1) hx hb dX7_removes_9 (by decide) ?_
  first
    | refine ksub hx hb dX7_removes_10 (by with_reducible rfl) (by with_reducible rfl) (by omega) ?_
    | refine lv_isub hx hb dX7_removes_10 ?_
  refine kist hx hb dX7_removes_11 rfl hl (by decide) (kp_2_2 rfl) (fun ls hl => ?_)
  have lp_12 : ∀ (d : Nat) (x : Int32) (t cc V1 : Nat) (N1 : Nat → Int32) (H : Heap) (locs : List Loc) (ls : Array Slot), (t) < d → (t ≤ V1 ∧ V1 ≤ Wn) → ((x = -1 ∧ t = 0) ∨ ∃ v, t = v + 1 ∧ x = nI v) → ((N1, V1, cc) = rmD (G 1) n Wn (Wn - t)) → (N1 8 = nI V1 ∧ N1 2 = nI n) → (t ≤ Wn) → va_P D vwCl (kW τ ad (rw1 G N1)) H → va_S (kAd ad) s9.heap H locs → lv_has ls 4 [(0, .ref (ad 0)), (1, .int (nI cc)), (2, .int x)] → W p9 l e9 { frames := 4, cells := 0, slots := 0, locals := 94 } s9 m9 args9 below9 meth9 c9 H locs 0 0 Q9 (F0 m9 12 ls []) := by
    intro d
    induction d with
    | zero => exact fun _ _ _ _ _ _ _ _ hd => absurd hd (Nat.not_lt_zero _)
    | succ d ih_12 =>
      intro x t cc V1 N1 H locs ls hd iv_0 iv_1 iv_2 iv_3 iv_4 hP hS hl
      refine lv_iload_n hx hb dX7_removes_12 rfl (lv_at hl 2 rfl) ?_
      refine lv_if_lt (tgt := 98) hx hb dX7_removes_13 (by decide) (fun c_13 => ?_) (fun c_13 => ?_)
      · skip
        have ht : t = 0 := by
          rcases iv_1 with q | ⟨v, q1, q2⟩
          · exact q.2
          · rw [q2] at c_13; exact absurd c_13 (nI_pos (by omega))
        refine lv_aload_n hx hb dX7_removes_98 rfl (lv_at hl 0 rfl) ?_
        refine kget X hP oJ g_X7_7 rfl dX7_removes_99 ?_
        refine lv_iconst (v := nI 3) hx hb dX7_removes_102 (by decide) ?_
        refine lv_dup2_11 hx hb dX7_removes_103 rfl rfl ?_
        refine kiald X hP aJ1 (by omega) dX7_removes_104 ?_
        rw [rw1_1]
        refine lv_iload_n hx hb dX7_removes_105 rfl (lv_at hl 1 rfl) ?_
        refine lv_iadd hx hb dX7_removes_106 ?_
        refine kiast X hI hP hS aJ1 (by omega) dX7_removes_107 (fun H locs hP hS => ?_)
        refine lv_iload_n hx hb dX7_removes_108 rfl (lv_at hl 1 rfl) ?_
        exact hret _ _ _ _ _ _ (by rw [show t = 0 by omega, Nat.sub_zero] at iv_2; rw [rw1_s, rmN, ← iv_2]; exact ⟨rfl, rfl⟩) hP hS dX7_removes_109
      · skip
        obtain ⟨v, rfl, rfl⟩ : ∃ v, t = v + 1 ∧ x = nI v := by
          rcases iv_1 with q | q
          · rw [q.1] at c_13; exact absurd (by decide) c_13
          · exact q
        refine lv_aload_n hx hb dX7_removes_16 rfl (lv_at hl 0 rfl) ?_
        refine lv_iload_n hx hb dX7_removes_17 rfl (lv_at hl 2 rfl) ?_
        refine kcV X hP hS (c_X7_isOld l hI (Wn := V1) (by rw [rw1_1]; exact iv_3.1) (by omega) (by omega) (by omega)) oJ v_X7_79 ⟨Nat.le_of_ble_eq_true rfl, Nat.le_of_ble_eq_true rfl, rfl, rfl⟩ rfl rfl (Nat.le_of_ble_eq_true rfl) hl.1 ⟨Nat.zero_le _, Nat.zero_le _⟩ dX7_removes_18 (fun r_18 G_18 H locs hR hP hS => ?_)
        obtain ⟨rfl, hG_18⟩ := hR
        rw [hG_18] at hP
        clear hG_18
        rw [rw1_1]
        first
          | refine kif_eq (tgt := 92) hx hb dX7_removes_21 (by decide) (fun c_21 => ?_) (fun c_21 => ?_)
          | refine lv_if_eq (tgt := 92) hx hb dX7_removes_21 (by decide) (fun c_21 => ?_) (fun c_21 => ?_)
        · skip
          refine kincD (q := 2) hx hb dX7_removes_92 hl rfl (by decide) (kp_3_2 rfl) (fun ls hl => ?_)
          refine lv_goto (tgt := 12) hx hb dX7_removes_95 (by decide) ?_
          skip
          exact ih_12 _ v _ _ _ _ _ _ (by omega) (by omega) (by
                rcases Nat.eq_zero_or_pos v with rfl | hp
                · exact Or.inl ⟨rfl, rfl⟩
                · obtain ⟨u, rfl⟩ : ∃ u, v = u + 1 := ⟨v - 1, by omega⟩
                  exact Or.inr ⟨u, rfl, pk_m1 u⟩) (rmD_s iv_2 iv_4 (rmS_z (fun z => c_21 z.1))) (iv_3) (by omega) hP hS (lv_sub hl [0,1,2] rfl)
        · skip
          refine lv_aload_n hx hb dX7_removes_24 rfl (lv_at hl 0 rfl) ?_
          refine lv_iload_n hx hb dX7_removes_25 rfl (lv_at hl 2 rfl) ?_
          refine lv_iconst (v := nI 1) hx hb dX7_removes_26 (by decide) ?_
          refine kcV X hP hS (c_X7_seenBy l hI (Wn := V1) (n := n) (w := nI 1) (by rw [rw1_1]; exact iv_3.1) (by omega) (by omega) (by rw [rw1_1]; exact iv_3.2) hn4 (by omega)) oJ v_X7_75 ⟨Nat.le_of_ble_eq_true rfl, Nat.le_of_ble_eq_true rfl, rfl, rfl⟩ rfl rfl (Nat.le_of_ble_eq_true rfl) hl.1 ⟨Nat.zero_le _, Nat.zero_le _⟩ dX7_removes_27 (fun r_27 G_27 H locs hR hP hS => ?_)
          obtain ⟨rfl, hG_27⟩ := hR
          rw [hG_27] at hP
          clear hG_27
          rw [rw1_1]
          first
            | refine kif_ne (tgt := 92) hx hb dX7_removes_30 (by decide) (fun c_30 => ?_) (fun c_30 => ?_)
            | refine lv_if_ne (tgt := 92) hx hb dX7_removes_30 (by decide) (fun c_30 => ?_) (fun c_30 => ?_)
          · skip
            refine kincD (q := 2) hx hb dX7_removes_92 hl rfl (by decide) (kp_3_2 rfl) (fun ls hl => ?_)
            refine lv_goto (tgt := 12) hx hb dX7_removes_95 (by decide) ?_
            skip
            exact ih_12 _ v _ _ _ _ _ _ (by omega) (by omega) (by
                  rcases Nat.eq_zero_or_pos v with rfl | hp
                  · exact Or.inl ⟨rfl, rfl⟩
                  · obtain ⟨u, rfl⟩ : ∃ u, v = u + 1 := ⟨v - 1, by omega⟩
                    exact Or.inr ⟨u, rfl, pk_m1 u⟩) (rmD_s iv_2 iv_4 (rmS_z (fun z => c_30 z.2))) (iv_3) (by omega) hP hS (lv_sub hl [0,1,2] rfl)
          · skip
            refine lv_aload_n hx hb dX7_removes_33 rfl (lv_at hl 0 rfl) ?_
            refine kget X hP oJ g_X7_7 rfl dX7_removes_34 ?_
            refine lv_bipush (v := nI 8) hx hb dX7_removes_37 (by decide) ?_
            refine lv_dup2_11 hx hb dX7_removes_39 rfl rfl ?_
            refine kiald X hP aJ1 (by omega) dX7_removes_40 ?_
            rw [rw1_1, iv_3.1]
            refine lv_iconst (v := nI 1) hx hb dX7_removes_41 (by decide) ?_
            refine ksub hx hb dX7_removes_42 (by with_reducible rfl) (by with_reducible rfl) (by omega) ?_
            refine kiast X hI hP hS aJ1 (by omega) dX7_removes_43 (fun H locs hP hS => ?_)
            rw [rw1_s, shK_0 N1 V1 v] at hP
            refine lv_iconst (v := nI 3) hx hb dX7_removes_44 (by decide) ?_
            refine lv_iload_n hx hb dX7_removes_45 rfl (lv_at hl 2 rfl) ?_
            first
              | refine kmul hx hb dX7_removes_46 (by with_reducible rfl) (by with_reducible rfl) ?_
              | refine lv_imul hx hb dX7_removes_46 ?_
            refine kist hx hb dX7_removes_47 rfl hl (by decide) (kp_3_3 rfl) (fun ls hl => ?_)
            have lp_48 : ∀ (d : Nat) (kk : Nat) (H : Heap) (locs : List Loc) (ls : Array Slot), (3 * (V1 - 1) - kk) < d → (3 * v ≤ kk ∧ kk ≤ 3 * (V1 - 1)) → va_P D vwCl (kW τ ad (rw1 G (shK N1 V1 v kk))) H → va_S (kAd ad) s9.heap H locs → lv_has ls 4 [(0, .ref (ad 0)), (1, .int (nI cc)), (2, .int (nI v)), (3, .int (nI kk))] → W p9 l e9 { frames := 4, cells := 0, slots := 0, locals := 94 } s9 m9 args9 below9 meth9 c9 H locs 0 0 Q9 (F0 m9 48 ls []) := by
              intro d
              induction d with
              | zero => exact fun _ _ _ _ hd => absurd hd (Nat.not_lt_zero _)
              | succ d ih_48 =>
                intro kk H locs ls hd jv_0 hP hS hl
                skip
                refine lv_iload_n hx hb dX7_removes_48 rfl (lv_at hl 3 rfl) ?_
                refine lv_iconst (v := nI 3) hx hb dX7_removes_49 (by decide) ?_
                refine lv_aload_n hx hb dX7_removes_50 rfl (lv_at hl 0 rfl) ?_
                refine kget X hP oJ g_X7_7 rfl dX7_removes_51 ?_
                refine lv_bipush (v := nI 8) hx hb dX7_removes_54 (by decide) ?_
                refine kiald X hP aJ1 (by omega) dX7_removes_56 ?_
                rw [rw1_1, show shK N1 V1 v kk 8 = nI (V1 - 1) from by simp [shK]]
                first
                  | refine kmul hx hb dX7_removes_57 (by with_reducible rfl) (by with_reducible rfl) ?_
                  | refine lv_imul hx hb dX7_removes_57 ?_
                first
                  | refine kic_ge (tgt := 89) hx hb dX7_removes_58 (by decide) (by with_reducible rfl) (by with_reducible rfl) (by omega) (by omega) (fun c_58 => ?_) (fun c_58 => ?_)
                  | refine lv_icmp_ge (tgt := 89) hx hb dX7_removes_58 (by decide) (fun c_58 => ?_) (fun c_58 => ?_)
                · skip
                  first
                    | refine kinc (q := 1) hx hb dX7_removes_89 hl rfl (by decide) (kp_4_1 rfl) (fun ls hl => ?_)
                    | refine kincG (q := 1) hx hb dX7_removes_89 hl rfl (by decide) (kp_4_1 rfl) (fun ls hl => ?_)
                  refine kincD (q := 2) hx hb dX7_removes_92 hl rfl (by decide) (kp_4_2 rfl) (fun ls hl => ?_)
                  refine lv_goto (tgt := 12) hx hb dX7_removes_95 (by decide) ?_
                  rw [show kk = 3 * (V1 - 1) by omega] at hP
                  exact ih_12 _ v _ _ _ _ _ _ (by omega) (by omega) (by
                        rcases Nat.eq_zero_or_pos v with rfl | hp
                        · exact Or.inl ⟨rfl, rfl⟩
                        · obtain ⟨u, rfl⟩ : ∃ u, v = u + 1 := ⟨v - 1, by omega⟩
                          exact Or.inr ⟨u, rfl, pk_m1 u⟩) (rmD_s iv_2 iv_4 (rmS_p ⟨c_21, c_30⟩)) (⟨by simp [shK], by unfold shK; rw [if_neg (by omega), if_neg (by omega)]; exact iv_3.2⟩) (by omega) hP hS (lv_sub hl [0,1,2] rfl)
                · skip
                  refine lv_aload_n hx hb dX7_removes_61 rfl (lv_at hl 0 rfl) ?_
                  refine kget X hP oJ g_X7_7 rfl dX7_removes_62 ?_
                  refine lv_sipush (v := nI 809) hx hb dX7_removes_65 (by decide) ?_
                  refine lv_iload_n hx hb dX7_removes_68 rfl (lv_at hl 3 rfl) ?_
                  first
                    | refine kadd hx hb dX7_removes_69 (by with_reducible rfl) (by with_reducible rfl) ?_
                    | refine lv_iadd hx hb dX7_removes_69 ?_
                  refine lv_aload_n hx hb dX7_removes_70 rfl (lv_at hl 0 rfl) ?_
                  refine kget X hP oJ g_X7_7 rfl dX7_removes_71 ?_
                  refine lv_sipush (v := nI 809) hx hb dX7_removes_74 (by decide) ?_
                  refine lv_iload_n hx hb dX7_removes_77 rfl (lv_at hl 3 rfl) ?_
                  first
                    | refine kadd hx hb dX7_removes_78 (by with_reducible rfl) (by with_reducible rfl) ?_
                    | refine lv_iadd hx hb dX7_removes_78 ?_
                  refine lv_iconst (v := nI 3) hx hb dX7_removes_79 (by decide) ?_
                  first
                    | refine kadd hx hb dX7_removes_80 (by with_reducible rfl) (by with_reducible rfl) ?_
                    | refine lv_iadd hx hb dX7_removes_80 ?_
                  refine kiald X hP aJ1 (by omega) dX7_removes_81 ?_
                  rw [rw1_1]
                  refine kiast X hI hP hS aJ1 (by omega) dX7_removes_82 (fun H locs hP hS => ?_)
                  first
                    | refine kinc (q := 3) hx hb dX7_removes_83 hl rfl (by decide) (kp_4_3 rfl) (fun ls hl => ?_)
                    | refine kincG (q := 3) hx hb dX7_removes_83 hl rfl (by decide) (kp_4_3 rfl) (fun ls hl => ?_)
                  refine lv_goto (tgt := 48) hx hb dX7_removes_86 (by decide) ?_
                  rw [rw1_s, shK_s (by omega)] at hP
                  exact ih_48 _ _ _ _ (by omega) (by omega) hP hS (lv_sub hl [0,1,2,3] rfl)
            exact lp_48 _ (3 * v) _ _ _ (Nat.lt_succ_self _) (⟨Nat.le_refl _, by omega⟩) hP hS (lv_sub hl [0,1,2,3] rfl)
  rw [← rw1_id G] at hP
  exact lp_12 _ (nI (Wn - 1)) Wn 0 Wn (G 1) _ _ _ (Nat.lt_succ_self _) (⟨Nat.le_refl _, Nat.le_refl _⟩) (Or.inr ⟨Wn - 1, by omega, rfl⟩) (by rw [Nat.sub_self]; rfl) (⟨hW, hn⟩) (Nat.le_refl _) hP hS (lv_sub hl [0,1,2] rfl)

/-- a tick's payments, of one reader -/
def pyS (d : Nat → Int32) (s : (Nat → Int32) × Nat) (r : Nat) : (Nat → Int32) × Nat :=
  if s.1 (9 + 20 * r + 2) = 0 ∧ ¬ 0 < s.1 (9 + 20 * r + 5) then
    (if d r ≤ s.1 (9 + 20 * r + 1) then (upd (upd (upd s.1 (9 + 20 * r + 1) (s.1 (9 + 20 * r + 1) - d r)) (9 + 20 * r + 7) (s.1 (9 + 20 * r + 7) + d r)) 5 (s.1 5 + d r), s.2)
     else (upd s.1 (9 + 20 * r + 2) (nI 3), s.2 + 1))
  else if s.1 (9 + 20 * r + 2) = 0 then (upd s.1 (9 + 20 * r + 5) (s.1 (9 + 20 * r + 5) - nI 1), s.2) else s
def pyA (N d : Nat → Int32) : Nat → (Nat → Int32) × Nat
  | 0 => (N, 0)
  | r + 1 => pyS d (pyA N d r) r
theorem pyA_s {N d N1 : Nat → Int32} {c r : Nat} {s : (Nat → Int32) × Nat} (h : (N1, c) = pyA N d r) (hs : pyS d (N1, c) r = s) : s = pyA N d (r + 1) := by rw [pyA, ← h, hs]
def duR (G : Nat → Nat → Int32) (V n i : Nat) : Nat → Nat → Int32 := fun k f => if k = 6 ∧ f < i then dueM (G 1) V n f else G k f
theorem duR_0 (G : Nat → Nat → Int32) (V n : Nat) : duR G V n 0 = G := by
  funext k f
  unfold duR
  rw [if_neg (by omega)]
theorem duR_1 (G : Nat → Nat → Int32) (V n i : Nat) : duR G V n i 1 = G 1 := by
  funext f
  unfold duR
  rw [if_neg (by omega)]
theorem duR_s (G : Nat → Nat → Int32) (V n i : Nat) : gs (duR G V n i) 6 i (dueM (G 1) V n i) = duR G V n (i + 1) := by
  funext k f
  unfold gs duR
  by_cases h : k = 6 ∧ f = i
  · rw [if_pos h, if_pos (by omega), h.2]
  · rw [if_neg h]
    by_cases h2 : k = 6 ∧ f < i
    · rw [if_pos h2, if_pos (by omega)]
    · rw [if_neg h2, if_neg (by omega)]
theorem duR_6 {G : Nat → Nat → Int32} {V n i : Nat} (N : Nat → Int32) (h : i < n) : rw1 (duR G V n n) N 6 i = dueM (G 1) V n i := by
  unfold rw1 duR
  rw [if_neg (by omega), if_pos ⟨rfl, h⟩]
def paidN (N : Nat → Int32) (V n : Nat) : Nat → Int32 := (pyA N (dueM N V n) n).1
/-- all that passes() does to the row of numbers -/
def tkN (N : Nat → Int32) (V n : Nat) : Nat → Int32 := upd (rmN (paidN N V n) n V) 1 (rmN (paidN N V n) n V 1 + nI 1)
theorem pyS_lo (d : Nat → Int32) (s : (Nat → Int32) × Nat) (r f : Nat) (hf : f ≠ 5) (hf2 : f < 9 + 20 * r + 1 ∨ 9 + 20 * r + 7 < f) : (pyS d s r).1 f = s.1 f := by
  unfold pyS
  split
  · split
    · show upd (upd (upd _ _ _) _ _) _ _ f = _
      unfold upd
      rw [if_neg hf, if_neg (by omega), if_neg (by omega)]
    · show upd _ _ _ f = _
      unfold upd
      rw [if_neg (by omega)]
  · split
    · show upd _ _ _ f = _
      unfold upd
      rw [if_neg (by omega)]
    · rfl
theorem pyA_lo (N d : Nat → Int32) (n f : Nat) (hn : n ≤ 40) (hf : f ≠ 5) (hf2 : f < 9 ∨ 809 ≤ f) : (pyA N d n).1 f = N f := by
  induction n with
  | zero => rfl
  | succ n ih => rw [pyA, pyS_lo _ _ _ _ hf (by omega), ih (by omega)]

theorem rw1_rw1 (G : Nat → Nat → Int32) (N M : Nat → Int32) : rw1 (rw1 G N) M = rw1 G M := by
  funext k f
  unfold rw1
  by_cases h : k = 1
  · rw [if_pos h, if_pos h]
  · rw [if_neg h, if_neg h, if_neg h]
set_option maxHeartbeats 4000000 in
set_option maxRecDepth 100000 in
theorem c_X7_passes (l : Launch) {D : va_G} {τ : Nat → ClassId} {ad : Nat → Nat} (hI : kInj ad) {G : Nat → Nat → Int32} {Wn n : Nat} (hW : G 1 8 = nI Wn) (hW1 : 1 ≤ Wn) (hW6 : Wn ≤ 64) (hn : G 1 2 = nI n) (hn4 : n ≤ 40) : kM l yX7_passes cX7_passes 3 (some .int) { frames := 6, cells := 0, slots := 0, locals := 139 } D τ ad [.ref (ad 0)] G (fun v G' => v = nI (pyA (G 1) (dueM (G 1) Wn n) n).2 ∧ G' = rw1 (duR G Wn n n) (tkN (G 1) Wn n)) := by
  refine kMet (own := RX7) (by decide) rfl (Nat.le_of_ble_eq_true rfl) ?_
  intro p9 e9 s9 m9 args9 below9 meth9 c9 Q9 X hx hb hP hS hret ls hl
  have hPs := hP
  have hl : lv_has ls 3 [(0, .ref (ad 0))] := hl
  refine lv_iconst (v := nI 0) hx hb dX7_passes_0 (by decide) ?_
  refine kist hx hb dX7_passes_1 rfl hl (by decide) (kp_1_1 rfl) (fun ls hl => ?_)
  refine lv_iconst (v := nI 0) hx hb dX7_passes_2 (by decide) ?_
  refine kist hx hb dX7_passes_3 rfl hl (by decide) (kp_2_2 rfl) (fun ls hl => ?_)
  have lp_4 : ∀ (d : Nat) (i : Nat) (H : Heap) (locs : List Loc) (ls : Array Slot), (n - i) < d → (i ≤ n) → va_P D vwCl (kW τ ad (duR G Wn n i)) H → va_S (kAd ad) s9.heap H locs → lv_has ls 3 [(0, .ref (ad 0)), (1, .int (nI 0)), (2, .int (nI i))] → W p9 l e9 { frames := 6, cells := 0, slots := 0, locals := 139 } s9 m9 args9 below9 meth9 c9 H locs 0 0 Q9 (F0 m9 4 ls []) := by
    intro d
    induction d with
    | zero => exact fun _ _ _ _ hd => absurd hd (Nat.not_lt_zero _)
    | succ d ih_4 =>
      intro i H locs ls hd iv_0 hP hS hl
      refine lv_iload_n hx hb dX7_passes_4 rfl (lv_at hl 2 rfl) ?_
      refine lv_aload_n hx hb dX7_passes_5 rfl (lv_at hl 0 rfl) ?_
      refine kget X hP oJ g_X7_7 rfl dX7_passes_6 ?_
      refine lv_iconst (v := nI 2) hx hb dX7_passes_9 (by decide) ?_
      refine kiald X hP aJ1 (by omega) dX7_passes_10 ?_
      rw [show duR G Wn n i 1 2 = nI n from by rw [duR_1]; exact hn]
      first
        | refine kic_ge (tgt := 31) hx hb dX7_passes_11 (by decide) (by with_reducible rfl) (by with_reducible rfl) (by omega) (by omega) (fun c_11 => ?_) (fun c_11 => ?_)
        | refine lv_icmp_ge (tgt := 31) hx hb dX7_passes_11 (by decide) (fun c_11 => ?_) (fun c_11 => ?_)
      · skip
        refine lv_iconst (v := nI 0) hx hb dX7_passes_31 (by decide) ?_
        refine kist hx hb dX7_passes_32 rfl hl (by decide) (kp_3_2 rfl) (fun ls hl => ?_)
        have lp_33 : ∀ (d : Nat) (cc i : Nat) (N1 : Nat → Int32) (H : Heap) (locs : List Loc) (ls : Array Slot), (n - i) < d → (i ≤ n) → ((N1, cc) = pyA (G 1) (dueM (G 1) Wn n) i) → va_P D vwCl (kW τ ad (rw1 (duR G Wn n n) N1)) H → va_S (kAd ad) s9.heap H locs → lv_has ls 3 [(0, .ref (ad 0)), (1, .int (nI cc)), (2, .int (nI i))] → W p9 l e9 { frames := 6, cells := 0, slots := 0, locals := 139 } s9 m9 args9 below9 meth9 c9 H locs 0 0 Q9 (F0 m9 33 ls []) := by
          intro d
          induction d with
          | zero => exact fun _ _ _ _ _ _ hd => absurd hd (Nat.not_lt_zero _)
          | succ d ih_33 =>
            intro cc i N1 H locs ls hd iv_0 iv_1 hP hS hl
            have hN : N1 = (pyA (G 1) (dueM (G 1) Wn n) i).1 := by rw [← iv_1]
            have hN2 : N1 2 = nI n := by rw [hN, pyA_lo _ _ _ _ (by omega) (by omega) (by omega)]; exact hn
            have hN8 : N1 8 = nI Wn := by rw [hN, pyA_lo _ _ _ _ (by omega) (by omega) (by omega)]; exact hW
            refine lv_iload_n hx hb dX7_passes_33 rfl (lv_at hl 2 rfl) ?_
            refine lv_aload_n hx hb dX7_passes_34 rfl (lv_at hl 0 rfl) ?_
            refine kget X hP oJ g_X7_7 rfl dX7_passes_35 ?_
            refine lv_iconst (v := nI 2) hx hb dX7_passes_38 (by decide) ?_
            refine kiald X hP aJ1 (by omega) dX7_passes_39 ?_
            rw [rw1_1, hN2]
            first
              | refine kic_ge (tgt := 173) hx hb dX7_passes_40 (by decide) (by with_reducible rfl) (by with_reducible rfl) (by omega) (by omega) (fun c_40 => ?_) (fun c_40 => ?_)
              | refine lv_icmp_ge (tgt := 173) hx hb dX7_passes_40 (by decide) (fun c_40 => ?_) (fun c_40 => ?_)
            · skip
              refine lv_aload_n hx hb dX7_passes_173 rfl (lv_at hl 0 rfl) ?_
              refine kcV X hP hS (c_X7_removes l hI (Wn := Wn) (n := n) (by rw [rw1_1]; exact hN8) hW1 hW6 (by rw [rw1_1]; exact hN2) hn4) oJ v_X7_98 ⟨Nat.le_of_ble_eq_true rfl, Nat.le_of_ble_eq_true rfl, rfl, rfl⟩ rfl rfl (Nat.le_of_ble_eq_true rfl) hl.1 ⟨Nat.zero_le _, Nat.zero_le _⟩ dX7_passes_174 (fun r_174 G_174 H locs hR hP hS => ?_)
              obtain ⟨-, rfl⟩ := hR
              rw [rw1_1, rw1_rw1] at hP
              refine lv_pop hx hb dX7_passes_177 rfl ?_
              refine lv_aload_n hx hb dX7_passes_178 rfl (lv_at hl 0 rfl) ?_
              refine kget X hP oJ g_X7_7 rfl dX7_passes_179 ?_
              refine lv_iconst (v := nI 1) hx hb dX7_passes_182 (by decide) ?_
              refine lv_dup2_11 hx hb dX7_passes_183 rfl rfl ?_
              refine kiald X hP aJ1 (by omega) dX7_passes_184 ?_
              rw [rw1_1]
              refine lv_iconst (v := nI 1) hx hb dX7_passes_185 (by decide) ?_
              refine lv_iadd hx hb dX7_passes_186 ?_
              refine kiast X hI hP hS aJ1 (by omega) dX7_passes_187 (fun H locs hP hS => ?_)
              refine lv_iload_n hx hb dX7_passes_188 rfl (lv_at hl 1 rfl) ?_
              exact hret _ _ _ _ _ _ (by rw [show i = n by omega] at iv_1; rw [rw1_s, tkN, paidN, ← iv_1]; exact ⟨rfl, rfl⟩) hP hS dX7_passes_189
            · skip
              refine lv_aload_n hx hb dX7_passes_43 rfl (lv_at hl 0 rfl) ?_
              refine lv_iload_n hx hb dX7_passes_44 rfl (lv_at hl 2 rfl) ?_
              refine kcV X hP hS (c_X7_isOpen l hI (by first | assumption | omega)) oJ v_X7_64 ⟨Nat.le_of_ble_eq_true rfl, Nat.le_of_ble_eq_true rfl, rfl, rfl⟩ rfl rfl (Nat.le_of_ble_eq_true rfl) hl.1 ⟨Nat.zero_le _, Nat.zero_le _⟩ dX7_passes_45 (fun r_45 G_45 H locs hR hP hS => ?_)
              obtain ⟨rfl, hG_45⟩ := hR
              rw [hG_45] at hP
              clear hG_45
              rw [rw1_1]
              first
                | refine kif_eq (tgt := 145) hx hb dX7_passes_48 (by decide) (fun c_48 => ?_) (fun c_48 => ?_)
                | refine lv_if_eq (tgt := 145) hx hb dX7_passes_48 (by decide) (fun c_48 => ?_) (fun c_48 => ?_)
              · skip
                refine lv_aload_n hx hb dX7_passes_145 rfl (lv_at hl 0 rfl) ?_
                refine lv_iload_n hx hb dX7_passes_146 rfl (lv_at hl 2 rfl) ?_
                refine kcV X hP hS (c_X7_isOpen l hI (by first | assumption | omega)) oJ v_X7_64 ⟨Nat.le_of_ble_eq_true rfl, Nat.le_of_ble_eq_true rfl, rfl, rfl⟩ rfl rfl (Nat.le_of_ble_eq_true rfl) hl.1 ⟨Nat.zero_le _, Nat.zero_le _⟩ dX7_passes_147 (fun r_147 G_147 H locs hR hP hS => ?_)
                obtain ⟨rfl, hG_147⟩ := hR
                rw [hG_147] at hP
                clear hG_147
                rw [rw1_1]
                first
                  | refine kif_eq (tgt := 167) hx hb dX7_passes_150 (by decide) (fun c_150 => ?_) (fun c_150 => ?_)
                  | refine lv_if_eq (tgt := 167) hx hb dX7_passes_150 (by decide) (fun c_150 => ?_) (fun c_150 => ?_)
                · skip
                  first
                    | refine kinc (q := 2) hx hb dX7_passes_167 hl rfl (by decide) (kp_3_2 rfl) (fun ls hl => ?_)
                    | refine kincG (q := 2) hx hb dX7_passes_167 hl rfl (by decide) (kp_3_2 rfl) (fun ls hl => ?_)
                  refine lv_goto (tgt := 33) hx hb dX7_passes_170 (by decide) ?_
                  exact ih_33 _ _ _ _ _ _ (by omega) (by omega) (pyA_s iv_1 ((if_neg (fun z => c_150 z.1)).trans (if_neg c_150))) hP hS (lv_sub hl [0,1,2] rfl)
                · skip
                  refine lv_aload_n hx hb dX7_passes_153 rfl (lv_at hl 0 rfl) ?_
                  refine lv_iload_n hx hb dX7_passes_154 rfl (lv_at hl 2 rfl) ?_
                  refine lv_iconst (v := nI 5) hx hb dX7_passes_155 (by decide) ?_
                  refine lv_aload_n hx hb dX7_passes_156 rfl (lv_at hl 0 rfl) ?_
                  refine lv_iload_n hx hb dX7_passes_157 rfl (lv_at hl 2 rfl) ?_
                  refine lv_iconst (v := nI 5) hx hb dX7_passes_158 (by decide) ?_
                  refine kcV X hP hS (c_X7_ofR l hI (by first | assumption | omega)) oJ v_X7_32 ⟨Nat.le_of_ble_eq_true rfl, Nat.le_of_ble_eq_true rfl, rfl, rfl⟩ rfl rfl (Nat.le_of_ble_eq_true rfl) hl.1 ⟨Nat.zero_le _, Nat.zero_le _⟩ dX7_passes_159 (fun r_159 G_159 H locs hR hP hS => ?_)
                  obtain ⟨rfl, hG_159⟩ := hR
                  rw [hG_159] at hP
                  clear hG_159
                  rw [rw1_1]
                  refine lv_iconst (v := nI 1) hx hb dX7_passes_162 (by decide) ?_
                  refine lv_isub hx hb dX7_passes_163 ?_
                  refine kcVv X hP hS (c_X7_setsR l hI (by first | assumption | omega)) oJ v_X7_88 ⟨Nat.le_of_ble_eq_true rfl, Nat.le_of_ble_eq_true rfl, rfl, rfl⟩ rfl rfl (Nat.le_of_ble_eq_true rfl) hl.1 ⟨Nat.zero_le _, Nat.zero_le _⟩ dX7_passes_164 (fun G_164 H locs hR hP hS => ?_)
                  subst hR
                  rw [rw1_s] at hP
                  first
                    | refine kinc (q := 2) hx hb dX7_passes_167 hl rfl (by decide) (kp_3_2 rfl) (fun ls hl => ?_)
                    | refine kincG (q := 2) hx hb dX7_passes_167 hl rfl (by decide) (kp_3_2 rfl) (fun ls hl => ?_)
                  refine lv_goto (tgt := 33) hx hb dX7_passes_170 (by decide) ?_
                  exact ih_33 _ _ _ _ _ _ (by omega) (by omega) (pyA_s iv_1 ((if_neg (fun z => c_48 z.1)).trans (if_pos c_150))) hP hS (lv_sub hl [0,1,2] rfl)
              · skip
                refine lv_aload_n hx hb dX7_passes_51 rfl (lv_at hl 0 rfl) ?_
                refine lv_iload_n hx hb dX7_passes_52 rfl (lv_at hl 2 rfl) ?_
                refine kcV X hP hS (c_X7_isWidow l hI (by first | assumption | omega)) oJ v_X7_72 ⟨Nat.le_of_ble_eq_true rfl, Nat.le_of_ble_eq_true rfl, rfl, rfl⟩ rfl rfl (Nat.le_of_ble_eq_true rfl) hl.1 ⟨Nat.zero_le _, Nat.zero_le _⟩ dX7_passes_53 (fun r_53 G_53 H locs hR hP hS => ?_)
                obtain ⟨rfl, hG_53⟩ := hR
                rw [hG_53] at hP
                clear hG_53
                rw [rw1_1]
                first
                  | refine kif_ne (tgt := 145) hx hb dX7_passes_56 (by decide) (fun c_56 => ?_) (fun c_56 => ?_)
                  | refine lv_if_ne (tgt := 145) hx hb dX7_passes_56 (by decide) (fun c_56 => ?_) (fun c_56 => ?_)
                · skip
                  refine lv_aload_n hx hb dX7_passes_145 rfl (lv_at hl 0 rfl) ?_
                  refine lv_iload_n hx hb dX7_passes_146 rfl (lv_at hl 2 rfl) ?_
                  refine kcV X hP hS (c_X7_isOpen l hI (by first | assumption | omega)) oJ v_X7_64 ⟨Nat.le_of_ble_eq_true rfl, Nat.le_of_ble_eq_true rfl, rfl, rfl⟩ rfl rfl (Nat.le_of_ble_eq_true rfl) hl.1 ⟨Nat.zero_le _, Nat.zero_le _⟩ dX7_passes_147 (fun r_147 G_147 H locs hR hP hS => ?_)
                  obtain ⟨rfl, hG_147⟩ := hR
                  rw [hG_147] at hP
                  clear hG_147
                  rw [rw1_1]
                  first
                    | refine kif_eq (tgt := 167) hx hb dX7_passes_150 (by decide) (fun c_150 => ?_) (fun c_150 => ?_)
                    | refine lv_if_eq (tgt := 167) hx hb dX7_passes_150 (by decide) (fun c_150 => ?_) (fun c_150 => ?_)
                  · skip
                    first
                      | refine kinc (q := 2) hx hb dX7_passes_167 hl rfl (by decide) (kp_3_2 rfl) (fun ls hl => ?_)
                      | refine kincG (q := 2) hx hb dX7_passes_167 hl rfl (by decide) (kp_3_2 rfl) (fun ls hl => ?_)
                    refine lv_goto (tgt := 33) hx hb dX7_passes_170 (by decide) ?_
                    exact ih_33 _ _ _ _ _ _ (by omega) (by omega) (pyA_s iv_1 ((if_neg (fun z => c_150 z.1)).trans (if_neg c_150))) hP hS (lv_sub hl [0,1,2] rfl)
                  · skip
                    refine lv_aload_n hx hb dX7_passes_153 rfl (lv_at hl 0 rfl) ?_
                    refine lv_iload_n hx hb dX7_passes_154 rfl (lv_at hl 2 rfl) ?_
                    refine lv_iconst (v := nI 5) hx hb dX7_passes_155 (by decide) ?_
                    refine lv_aload_n hx hb dX7_passes_156 rfl (lv_at hl 0 rfl) ?_
                    refine lv_iload_n hx hb dX7_passes_157 rfl (lv_at hl 2 rfl) ?_
                    refine lv_iconst (v := nI 5) hx hb dX7_passes_158 (by decide) ?_
                    refine kcV X hP hS (c_X7_ofR l hI (by first | assumption | omega)) oJ v_X7_32 ⟨Nat.le_of_ble_eq_true rfl, Nat.le_of_ble_eq_true rfl, rfl, rfl⟩ rfl rfl (Nat.le_of_ble_eq_true rfl) hl.1 ⟨Nat.zero_le _, Nat.zero_le _⟩ dX7_passes_159 (fun r_159 G_159 H locs hR hP hS => ?_)
                    obtain ⟨rfl, hG_159⟩ := hR
                    rw [hG_159] at hP
                    clear hG_159
                    rw [rw1_1]
                    refine lv_iconst (v := nI 1) hx hb dX7_passes_162 (by decide) ?_
                    refine lv_isub hx hb dX7_passes_163 ?_
                    refine kcVv X hP hS (c_X7_setsR l hI (by first | assumption | omega)) oJ v_X7_88 ⟨Nat.le_of_ble_eq_true rfl, Nat.le_of_ble_eq_true rfl, rfl, rfl⟩ rfl rfl (Nat.le_of_ble_eq_true rfl) hl.1 ⟨Nat.zero_le _, Nat.zero_le _⟩ dX7_passes_164 (fun G_164 H locs hR hP hS => ?_)
                    subst hR
                    rw [rw1_s] at hP
                    first
                      | refine kinc (q := 2) hx hb dX7_passes_167 hl rfl (by decide) (kp_3_2 rfl) (fun ls hl => ?_)
                      | refine kincG (q := 2) hx hb dX7_passes_167 hl rfl (by decide) (kp_3_2 rfl) (fun ls hl => ?_)
                    refine lv_goto (tgt := 33) hx hb dX7_passes_170 (by decide) ?_
                    exact ih_33 _ _ _ _ _ _ (by omega) (by omega) (pyA_s iv_1 ((if_neg (fun z => z.2 c_56)).trans (if_pos c_150))) hP hS (lv_sub hl [0,1,2] rfl)
                · skip
                  refine lv_aload_n hx hb dX7_passes_59 rfl (lv_at hl 0 rfl) ?_
                  refine lv_iload_n hx hb dX7_passes_60 rfl (lv_at hl 2 rfl) ?_
                  refine lv_iconst (v := nI 1) hx hb dX7_passes_61 (by decide) ?_
                  refine kcV X hP hS (c_X7_ofR l hI (by first | assumption | omega)) oJ v_X7_32 ⟨Nat.le_of_ble_eq_true rfl, Nat.le_of_ble_eq_true rfl, rfl, rfl⟩ rfl rfl (Nat.le_of_ble_eq_true rfl) hl.1 ⟨Nat.zero_le _, Nat.zero_le _⟩ dX7_passes_62 (fun r_62 G_62 H locs hR hP hS => ?_)
                  obtain ⟨rfl, hG_62⟩ := hR
                  rw [hG_62] at hP
                  clear hG_62
                  rw [rw1_1]
                  refine lv_aload_n hx hb dX7_passes_65 rfl (lv_at hl 0 rfl) ?_
                  refine kget X hP oJ g_X7_25 rfl dX7_passes_66 ?_
                  refine lv_iload_n hx hb dX7_passes_69 rfl (lv_at hl 2 rfl) ?_
                  refine kiald X hP aJ6 (by omega) dX7_passes_70 ?_
                  rw [duR_6 _ c_40]
                  first
                    | refine kic_lt (tgt := 132) hx hb dX7_passes_71 (by decide) (by with_reducible rfl) (by with_reducible rfl) (by omega) (by omega) (fun c_71 => ?_) (fun c_71 => ?_)
                    | refine lv_icmp_lt (tgt := 132) hx hb dX7_passes_71 (by decide) (fun c_71 => ?_) (fun c_71 => ?_)
                  · skip
                    refine lv_aload_n hx hb dX7_passes_132 rfl (lv_at hl 0 rfl) ?_
                    refine lv_iload_n hx hb dX7_passes_133 rfl (lv_at hl 2 rfl) ?_
                    refine lv_iconst (v := nI 2) hx hb dX7_passes_134 (by decide) ?_
                    refine lv_iconst (v := nI 3) hx hb dX7_passes_135 (by decide) ?_
                    refine kcVv X hP hS (c_X7_setsR l hI (by first | assumption | omega)) oJ v_X7_88 ⟨Nat.le_of_ble_eq_true rfl, Nat.le_of_ble_eq_true rfl, rfl, rfl⟩ rfl rfl (Nat.le_of_ble_eq_true rfl) hl.1 ⟨Nat.zero_le _, Nat.zero_le _⟩ dX7_passes_136 (fun G_136 H locs hR hP hS => ?_)
                    subst hR
                    rw [rw1_s] at hP
                    first
                      | refine kinc (q := 1) hx hb dX7_passes_139 hl rfl (by decide) (kp_3_1 rfl) (fun ls hl => ?_)
                      | refine kincG (q := 1) hx hb dX7_passes_139 hl rfl (by decide) (kp_3_1 rfl) (fun ls hl => ?_)
                    refine lv_goto (tgt := 167) hx hb dX7_passes_142 (by decide) ?_
                    first
                      | refine kinc (q := 2) hx hb dX7_passes_167 hl rfl (by decide) (kp_3_2 rfl) (fun ls hl => ?_)
                      | refine kincG (q := 2) hx hb dX7_passes_167 hl rfl (by decide) (kp_3_2 rfl) (fun ls hl => ?_)
                    refine lv_goto (tgt := 33) hx hb dX7_passes_170 (by decide) ?_
                    exact ih_33 _ _ _ _ _ _ (by omega) (by omega) (pyA_s iv_1 ((if_pos (And.intro c_48 c_56)).trans (if_neg (Int32.not_le.mpr c_71)))) hP hS (lv_sub hl [0,1,2] rfl)
                  · skip
                    refine lv_aload_n hx hb dX7_passes_74 rfl (lv_at hl 0 rfl) ?_
                    refine lv_iload_n hx hb dX7_passes_75 rfl (lv_at hl 2 rfl) ?_
                    refine lv_iconst (v := nI 1) hx hb dX7_passes_76 (by decide) ?_
                    refine lv_aload_n hx hb dX7_passes_77 rfl (lv_at hl 0 rfl) ?_
                    refine lv_iload_n hx hb dX7_passes_78 rfl (lv_at hl 2 rfl) ?_
                    refine lv_iconst (v := nI 1) hx hb dX7_passes_79 (by decide) ?_
                    refine kcV X hP hS (c_X7_ofR l hI (by first | assumption | omega)) oJ v_X7_32 ⟨Nat.le_of_ble_eq_true rfl, Nat.le_of_ble_eq_true rfl, rfl, rfl⟩ rfl rfl (Nat.le_of_ble_eq_true rfl) hl.1 ⟨Nat.zero_le _, Nat.zero_le _⟩ dX7_passes_80 (fun r_80 G_80 H locs hR hP hS => ?_)
                    obtain ⟨rfl, hG_80⟩ := hR
                    rw [hG_80] at hP
                    clear hG_80
                    rw [rw1_1]
                    refine lv_aload_n hx hb dX7_passes_83 rfl (lv_at hl 0 rfl) ?_
                    refine kget X hP oJ g_X7_25 rfl dX7_passes_84 ?_
                    refine lv_iload_n hx hb dX7_passes_87 rfl (lv_at hl 2 rfl) ?_
                    refine kiald X hP aJ6 (by omega) dX7_passes_88 ?_
                    rw [duR_6 _ c_40]
                    refine lv_isub hx hb dX7_passes_89 ?_
                    refine kcVv X hP hS (c_X7_setsR l hI (by first | assumption | omega)) oJ v_X7_88 ⟨Nat.le_of_ble_eq_true rfl, Nat.le_of_ble_eq_true rfl, rfl, rfl⟩ rfl rfl (Nat.le_of_ble_eq_true rfl) hl.1 ⟨Nat.zero_le _, Nat.zero_le _⟩ dX7_passes_90 (fun G_90 H locs hR hP hS => ?_)
                    subst hR
                    rw [rw1_s] at hP
                    refine lv_aload_n hx hb dX7_passes_93 rfl (lv_at hl 0 rfl) ?_
                    refine lv_iload_n hx hb dX7_passes_94 rfl (lv_at hl 2 rfl) ?_
                    refine lv_bipush (v := nI 7) hx hb dX7_passes_95 (by decide) ?_
                    refine lv_aload_n hx hb dX7_passes_97 rfl (lv_at hl 0 rfl) ?_
                    refine lv_iload_n hx hb dX7_passes_98 rfl (lv_at hl 2 rfl) ?_
                    refine lv_bipush (v := nI 7) hx hb dX7_passes_99 (by decide) ?_
                    refine kcV X hP hS (c_X7_ofR l hI (by first | assumption | omega)) oJ v_X7_32 ⟨Nat.le_of_ble_eq_true rfl, Nat.le_of_ble_eq_true rfl, rfl, rfl⟩ rfl rfl (Nat.le_of_ble_eq_true rfl) hl.1 ⟨Nat.zero_le _, Nat.zero_le _⟩ dX7_passes_101 (fun r_101 G_101 H locs hR hP hS => ?_)
                    obtain ⟨rfl, hG_101⟩ := hR
                    rw [hG_101] at hP
                    clear hG_101
                    rw [rw1_1, show upd N1 (9 + 20 * i + 1) (N1 (9 + 20 * i + 1) - dueM (G 1) Wn n i) (9 + 20 * i + 7) = N1 (9 + 20 * i + 7) from by unfold upd; rw [if_neg (by omega)]]
                    refine lv_aload_n hx hb dX7_passes_104 rfl (lv_at hl 0 rfl) ?_
                    refine kget X hP oJ g_X7_25 rfl dX7_passes_105 ?_
                    refine lv_iload_n hx hb dX7_passes_108 rfl (lv_at hl 2 rfl) ?_
                    refine kiald X hP aJ6 (by omega) dX7_passes_109 ?_
                    rw [duR_6 _ c_40]
                    refine lv_iadd hx hb dX7_passes_110 ?_
                    refine kcVv X hP hS (c_X7_setsR l hI (by first | assumption | omega)) oJ v_X7_88 ⟨Nat.le_of_ble_eq_true rfl, Nat.le_of_ble_eq_true rfl, rfl, rfl⟩ rfl rfl (Nat.le_of_ble_eq_true rfl) hl.1 ⟨Nat.zero_le _, Nat.zero_le _⟩ dX7_passes_111 (fun G_111 H locs hR hP hS => ?_)
                    subst hR
                    rw [rw1_s] at hP
                    refine lv_aload_n hx hb dX7_passes_114 rfl (lv_at hl 0 rfl) ?_
                    refine kget X hP oJ g_X7_7 rfl dX7_passes_115 ?_
                    refine lv_iconst (v := nI 5) hx hb dX7_passes_118 (by decide) ?_
                    refine lv_dup2_11 hx hb dX7_passes_119 rfl rfl ?_
                    refine kiald X hP aJ1 (by omega) dX7_passes_120 ?_
                    rw [rw1_1, show ∀ a b : Int32, upd (upd N1 (9 + 20 * i + 1) a) (9 + 20 * i + 7) b 5 = N1 5 from fun a b => by unfold upd; rw [if_neg (by omega), if_neg (by omega)]]
                    refine lv_aload_n hx hb dX7_passes_121 rfl (lv_at hl 0 rfl) ?_
                    refine kget X hP oJ g_X7_25 rfl dX7_passes_122 ?_
                    refine lv_iload_n hx hb dX7_passes_125 rfl (lv_at hl 2 rfl) ?_
                    refine kiald X hP aJ6 (by omega) dX7_passes_126 ?_
                    rw [duR_6 _ c_40]
                    refine lv_iadd hx hb dX7_passes_127 ?_
                    refine kiast X hI hP hS aJ1 (by omega) dX7_passes_128 (fun H locs hP hS => ?_)
                    rw [rw1_s] at hP
                    refine lv_goto (tgt := 167) hx hb dX7_passes_129 (by decide) ?_
                    first
                      | refine kinc (q := 2) hx hb dX7_passes_167 hl rfl (by decide) (kp_3_2 rfl) (fun ls hl => ?_)
                      | refine kincG (q := 2) hx hb dX7_passes_167 hl rfl (by decide) (kp_3_2 rfl) (fun ls hl => ?_)
                    refine lv_goto (tgt := 33) hx hb dX7_passes_170 (by decide) ?_
                    exact ih_33 _ _ _ _ _ _ (by omega) (by omega) (pyA_s iv_1 ((if_pos (And.intro c_48 c_56)).trans (if_pos (Int32.not_lt.mp c_71)))) hP hS (lv_sub hl [0,1,2] rfl)
        rw [show i = n by omega, ← rw1_id (duR G Wn n n), duR_1] at hP
        exact lp_33 _ 0 0 (G 1) _ _ _ (Nat.lt_succ_self _) (Nat.zero_le _) (rfl) hP hS (lv_sub hl [0,1,2] rfl)
      · skip
        refine lv_aload_n hx hb dX7_passes_14 rfl (lv_at hl 0 rfl) ?_
        refine kget X hP oJ g_X7_25 rfl dX7_passes_15 ?_
        refine lv_iload_n hx hb dX7_passes_18 rfl (lv_at hl 2 rfl) ?_
        refine lv_aload_n hx hb dX7_passes_19 rfl (lv_at hl 0 rfl) ?_
        refine lv_iload_n hx hb dX7_passes_20 rfl (lv_at hl 2 rfl) ?_
        refine kcV X hP hS (c_X7_dueOf l hI (Wn := Wn) (n := n) (by rw [duR_1]; exact hW) hW1 hW6 (by rw [duR_1]; exact hn) hn4 (by omega)) oJ v_X7_95 ⟨Nat.le_of_ble_eq_true rfl, Nat.le_of_ble_eq_true rfl, rfl, rfl⟩ rfl rfl (Nat.le_of_ble_eq_true rfl) hl.1 ⟨Nat.zero_le _, Nat.zero_le _⟩ dX7_passes_21 (fun r_21 G_21 H locs hR hP hS => ?_)
        obtain ⟨rfl, hG_21⟩ := hR
        rw [hG_21] at hP
        clear hG_21
        rw [duR_1]
        refine kiast X hI hP hS aJ6 (by omega) dX7_passes_24 (fun H locs hP hS => ?_)
        first
          | refine kinc (q := 2) hx hb dX7_passes_25 hl rfl (by decide) (kp_3_2 rfl) (fun ls hl => ?_)
          | refine kincG (q := 2) hx hb dX7_passes_25 hl rfl (by decide) (kp_3_2 rfl) (fun ls hl => ?_)
        refine lv_goto (tgt := 4) hx hb dX7_passes_28 (by decide) ?_
        rw [duR_s] at hP
        exact ih_4 _ _ _ _ (by omega) (by omega) hP hS (lv_sub hl [0,1,2] rfl)
  rw [← duR_0 G Wn n] at hP
  exact lp_4 _ 0 _ _ _ (Nat.lt_succ_self _) (Nat.zero_le _) hP hS (lv_sub hl [0,1,2] rfl)
