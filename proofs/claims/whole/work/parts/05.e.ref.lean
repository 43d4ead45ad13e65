
theorem upd_ne {N : Nat → Int32} {k f : Nat} {x : Int32} (h : f ≠ k) : upd N k x f = N f := if_neg h
theorem upd_eq {N : Nat → Int32} {k : Nat} {x : Int32} : upd N k x k = x := if_pos rfl
def chN (N : Nat → Int32) (r k mm : Nat) : Nat → Int32 := upd (upd (upd (upd (upd (upd (upd N 0 (nI (mm + 1))) (1001 + 5 * k) (nI r)) (1001 + 5 * k + 1) (N (9 + 20 * r + 0))) (1001 + 5 * k + 2) (nI (mm + 1))) (1001 + 5 * k + 3) (N (9 + 20 * r + 4))) (1001 + 5 * k + 4) (N (9 + 20 * r + 3))) 6 (nI (k + 1))
theorem chN_lo {N : Nat → Int32} {r k mm f : Nat} (h : f ≠ 0 ∧ f ≠ 6 ∧ f < 1001) : chN N r k mm f = N f := by
  unfold chN
  rw [upd_ne (by omega), upd_ne (by omega), upd_ne (by omega), upd_ne (by omega), upd_ne (by omega), upd_ne (by omega), upd_ne (by omega)]
def caS (N : Nat → Int32) (r mm : Nat) (s : (Nat → Int32) × Nat) (c : Nat) : (Nat → Int32) × Nat :=
  if hw (N (9 + 20 * r + 4)) c then (upd (upd (upd (upd s.1 (809 + 3 * s.2) (nI c)) (809 + 3 * s.2 + 1) (nI (mm + 1))) (809 + 3 * s.2 + 2) (N (9 + 20 * r + (8 + c)))) 8 (nI (s.2 + 1)), s.2 + 1) else s
def caA (N : Nat → Int32) (r k mm V : Nat) : Nat → (Nat → Int32) × Nat
  | 0 => (chN N r k mm, V)
  | c + 1 => caS N r mm (caA N r k mm V c) c
theorem caA_s {N N1 : Nat → Int32} {r k mm V V1 c : Nat} {s : (Nat → Int32) × Nat} (h : (N1, V1) = caA N r k mm V c) (hs : caS N r mm (N1, V1) c = s) : s = caA N r k mm V (c + 1) := by rw [caA, ← h, hs]
/-- all that commits() does -/
def coN (N : Nat → Int32) (r k mm V : Nat) : Nat → Int32 := (caA N r k mm V 12).1
set_option maxHeartbeats 4000000 in
set_option maxRecDepth 100000 in
theorem c_X7_commits (l : Launch) {D : va_G} {τ : Nat → ClassId} {ad : Nat → Nat} (hI : kInj ad) {G : Nat → Nat → Int32} {Wn r k mm : Nat} (hW : G 1 8 = nI Wn) (hW6 : Wn ≤ 52) (hk : G 1 6 = nI k) (hk4 : k < 40) (hm : G 1 0 = nI mm) (hr : r < 40) : kMv l yX7_commits cX7_commits 5 { frames := 1, cells := 0, slots := 0, locals := 22 } D τ ad [.ref (ad 0), .int (nI r)] G (fun G' => G' = rw1 G (coN (G 1) r k mm Wn)) := by
  refine kMetV (own := RX7) (by decide) rfl (Nat.le_of_ble_eq_true rfl) ?_
  intro p9 e9 s9 m9 args9 below9 meth9 c9 Q9 X hx hb hP hS hret ls hl
  have hPs := hP
  have hl : lv_has ls 5 [(0, .ref (ad 0)), (1, .int (nI r))] := hl
  rw [← rw1_id G] at hP
  refine lv_aload_n hx hb dX7_commits_0 rfl (lv_at hl 0 rfl) ?_
  refine kget X hP oJ g_X7_7 rfl dX7_commits_1 ?_
  refine lv_iconst (v := nI 0) hx hb dX7_commits_4 (by decide) ?_
  refine lv_dup2_11 hx hb dX7_commits_5 rfl rfl ?_
  refine kiald X hP aJ1 (by omega) dX7_commits_6 ?_
  rw [rw1_1, hm]
  refine lv_iconst (v := nI 1) hx hb dX7_commits_7 (by decide) ?_
  first
    | refine kadd hx hb dX7_commits_8 (by with_reducible rfl) (by with_reducible rfl) ?_
    | refine lv_iadd hx hb dX7_commits_8 ?_
  refine kiast X hI hP hS aJ1 (by omega) dX7_commits_9 (fun H locs hP hS => ?_)
  rw [rw1_s] at hP
  refine lv_sipush (v := nI 1001) hx hb dX7_commits_10 (by decide) ?_
  refine lv_iconst (v := nI 5) hx hb dX7_commits_13 (by decide) ?_
  refine lv_aload_n hx hb dX7_commits_14 rfl (lv_at hl 0 rfl) ?_
  refine kget X hP oJ g_X7_7 rfl dX7_commits_15 ?_
  refine lv_bipush (v := nI 6) hx hb dX7_commits_18 (by decide) ?_
  refine kiald X hP aJ1 (by omega) dX7_commits_20 ?_
  rw [rw1_1, upd_ne (by omega), hk]
  first
    | refine kmul hx hb dX7_commits_21 (by with_reducible rfl) (by with_reducible rfl) ?_
    | refine lv_imul hx hb dX7_commits_21 ?_
  first
    | refine kadd hx hb dX7_commits_22 (by with_reducible rfl) (by with_reducible rfl) ?_
    | refine lv_iadd hx hb dX7_commits_22 ?_
  refine kist hx hb dX7_commits_23 rfl hl (by decide) (kp_2_2 rfl) (fun ls hl => ?_)
  refine lv_aload_n hx hb dX7_commits_24 rfl (lv_at hl 0 rfl) ?_
  refine kget X hP oJ g_X7_7 rfl dX7_commits_25 ?_
  refine lv_iload_n hx hb dX7_commits_28 rfl (lv_at hl 2 rfl) ?_
  refine lv_iload_n hx hb dX7_commits_29 rfl (lv_at hl 1 rfl) ?_
  refine kiast X hI hP hS aJ1 (by omega) dX7_commits_30 (fun H locs hP hS => ?_)
  rw [rw1_s] at hP
  refine lv_aload_n hx hb dX7_commits_31 rfl (lv_at hl 0 rfl) ?_
  refine kget X hP oJ g_X7_7 rfl dX7_commits_32 ?_
  refine lv_iload_n hx hb dX7_commits_35 rfl (lv_at hl 2 rfl) ?_
  refine lv_iconst (v := nI 1) hx hb dX7_commits_36 (by decide) ?_
  first
    | refine kadd hx hb dX7_commits_37 (by with_reducible rfl) (by with_reducible rfl) ?_
    | refine lv_iadd hx hb dX7_commits_37 ?_
  refine lv_aload_n hx hb dX7_commits_38 rfl (lv_at hl 0 rfl) ?_
  refine lv_iload_n hx hb dX7_commits_39 rfl (lv_at hl 1 rfl) ?_
  refine lv_iconst (v := nI 0) hx hb dX7_commits_40 (by decide) ?_
  refine kcV X hP hS (c_X7_ofR l hI (by first | assumption | omega)) oJ v_X7_32 ⟨Nat.le_of_ble_eq_true rfl, Nat.le_of_ble_eq_true rfl, rfl, rfl⟩ rfl rfl (Nat.le_of_ble_eq_true rfl) hl.1 ⟨Nat.zero_le _, Nat.zero_le _⟩ dX7_commits_41 (fun r_41 G_41 H locs hR hP hS => ?_)
  obtain ⟨rfl, hG_41⟩ := hR
  rw [hG_41] at hP
  clear hG_41
  rw [rw1_1, upd_ne (by omega), upd_ne (by omega)]
  refine kiast X hI hP hS aJ1 (by omega) dX7_commits_44 (fun H locs hP hS => ?_)
  rw [rw1_s] at hP
  refine lv_aload_n hx hb dX7_commits_45 rfl (lv_at hl 0 rfl) ?_
  refine kget X hP oJ g_X7_7 rfl dX7_commits_46 ?_
  refine lv_iload_n hx hb dX7_commits_49 rfl (lv_at hl 2 rfl) ?_
  refine lv_iconst (v := nI 2) hx hb dX7_commits_50 (by decide) ?_
  first
    | refine kadd hx hb dX7_commits_51 (by with_reducible rfl) (by with_reducible rfl) ?_
    | refine lv_iadd hx hb dX7_commits_51 ?_
  refine lv_aload_n hx hb dX7_commits_52 rfl (lv_at hl 0 rfl) ?_
  refine kget X hP oJ g_X7_7 rfl dX7_commits_53 ?_
  refine lv_iconst (v := nI 0) hx hb dX7_commits_56 (by decide) ?_
  refine kiald X hP aJ1 (by omega) dX7_commits_57 ?_
  rw [rw1_1, upd_ne (by omega), upd_ne (by omega), upd_eq]
  refine kiast X hI hP hS aJ1 (by omega) dX7_commits_58 (fun H locs hP hS => ?_)
  rw [rw1_s] at hP
  refine lv_aload_n hx hb dX7_commits_59 rfl (lv_at hl 0 rfl) ?_
  refine kget X hP oJ g_X7_7 rfl dX7_commits_60 ?_
  refine lv_iload_n hx hb dX7_commits_63 rfl (lv_at hl 2 rfl) ?_
  refine lv_iconst (v := nI 3) hx hb dX7_commits_64 (by decide) ?_
  first
    | refine kadd hx hb dX7_commits_65 (by with_reducible rfl) (by with_reducible rfl) ?_
    | refine lv_iadd hx hb dX7_commits_65 ?_
  refine lv_aload_n hx hb dX7_commits_66 rfl (lv_at hl 0 rfl) ?_
  refine lv_iload_n hx hb dX7_commits_67 rfl (lv_at hl 1 rfl) ?_
  refine lv_iconst (v := nI 4) hx hb dX7_commits_68 (by decide) ?_
  refine kcV X hP hS (c_X7_ofR l hI (by first | assumption | omega)) oJ v_X7_32 ⟨Nat.le_of_ble_eq_true rfl, Nat.le_of_ble_eq_true rfl, rfl, rfl⟩ rfl rfl (Nat.le_of_ble_eq_true rfl) hl.1 ⟨Nat.zero_le _, Nat.zero_le _⟩ dX7_commits_69 (fun r_69 G_69 H locs hR hP hS => ?_)
  obtain ⟨rfl, hG_69⟩ := hR
  rw [hG_69] at hP
  clear hG_69
  rw [rw1_1, upd_ne (by omega), upd_ne (by omega), upd_ne (by omega), upd_ne (by omega)]
  refine kiast X hI hP hS aJ1 (by omega) dX7_commits_72 (fun H locs hP hS => ?_)
  rw [rw1_s] at hP
  refine lv_aload_n hx hb dX7_commits_73 rfl (lv_at hl 0 rfl) ?_
  refine kget X hP oJ g_X7_7 rfl dX7_commits_74 ?_
  refine lv_iload_n hx hb dX7_commits_77 rfl (lv_at hl 2 rfl) ?_
  refine lv_iconst (v := nI 4) hx hb dX7_commits_78 (by decide) ?_
  first
    | refine kadd hx hb dX7_commits_79 (by with_reducible rfl) (by with_reducible rfl) ?_
    | refine lv_iadd hx hb dX7_commits_79 ?_
  refine lv_aload_n hx hb dX7_commits_80 rfl (lv_at hl 0 rfl) ?_
  refine lv_iload_n hx hb dX7_commits_81 rfl (lv_at hl 1 rfl) ?_
  refine lv_iconst (v := nI 3) hx hb dX7_commits_82 (by decide) ?_
  refine kcV X hP hS (c_X7_ofR l hI (by first | assumption | omega)) oJ v_X7_32 ⟨Nat.le_of_ble_eq_true rfl, Nat.le_of_ble_eq_true rfl, rfl, rfl⟩ rfl rfl (Nat.le_of_ble_eq_true rfl) hl.1 ⟨Nat.zero_le _, Nat.zero_le _⟩ dX7_commits_83 (fun r_83 G_83 H locs hR hP hS => ?_)
  obtain ⟨rfl, hG_83⟩ := hR
  rw [hG_83] at hP
  clear hG_83
  rw [rw1_1, upd_ne (by omega), upd_ne (by omega), upd_ne (by omega), upd_ne (by omega), upd_ne (by omega)]
  refine kiast X hI hP hS aJ1 (by omega) dX7_commits_86 (fun H locs hP hS => ?_)
  rw [rw1_s] at hP
  refine lv_aload_n hx hb dX7_commits_87 rfl (lv_at hl 0 rfl) ?_
  refine kget X hP oJ g_X7_7 rfl dX7_commits_88 ?_
  refine lv_bipush (v := nI 6) hx hb dX7_commits_91 (by decide) ?_
  refine lv_dup2_11 hx hb dX7_commits_93 rfl rfl ?_
  refine kiald X hP aJ1 (by omega) dX7_commits_94 ?_
  rw [rw1_1, upd_ne (by omega), upd_ne (by omega), upd_ne (by omega), upd_ne (by omega), upd_ne (by omega), upd_ne (by omega), hk]
  refine lv_iconst (v := nI 1) hx hb dX7_commits_95 (by decide) ?_
  first
    | refine kadd hx hb dX7_commits_96 (by with_reducible rfl) (by with_reducible rfl) ?_
    | refine lv_iadd hx hb dX7_commits_96 ?_
  refine kiast X hI hP hS aJ1 (by omega) dX7_commits_97 (fun H locs hP hS => ?_)
  rw [rw1_s] at hP
  rw [show upd (upd (upd (upd (upd (upd (upd (G 1) 0 (nI (mm + 1))) (1001 + 5 * k) (nI r)) (1001 + 5 * k + 1) (G 1 (9 + 20 * r + 0))) (1001 + 5 * k + 2) (nI (mm + 1))) (1001 + 5 * k + 3) (G 1 (9 + 20 * r + 4))) (1001 + 5 * k + 4) (G 1 (9 + 20 * r + 3))) 6 (nI (k + 1)) = chN (G 1) r k mm from rfl] at hP
  refine lv_iconst (v := nI 0) hx hb dX7_commits_98 (by decide) ?_
  refine kist hx hb dX7_commits_99 rfl hl (by decide) (kp_3_3 rfl) (fun ls hl => ?_)
  have lp_100 : ∀ (d : Nat) (i V1 : Nat) (N1 : Nat → Int32) (H : Heap) (locs : List Loc) (ls : Array Slot), (12 - i) < d → (i ≤ 12) → ((N1, V1) = caA (G 1) r k mm Wn i) → (V1 ≤ Wn + i) → (N1 8 = nI V1 ∧ N1 0 = nI (mm + 1)) → (∀ f, 9 ≤ f → f < 809 → N1 f = G 1 f) → va_P D vwCl (kW τ ad (rw1 G N1)) H → va_S (kAd ad) s9.heap H locs → lv_has ls 5 [(0, .ref (ad 0)), (1, .int (nI r)), (2, .int (nI (1001 + 5 * k))), (3, .int (nI i))] → W p9 l e9 { frames := 1, cells := 0, slots := 0, locals := 22 } s9 m9 args9 below9 meth9 c9 H locs 0 0 Q9 (F0 m9 100 ls []) := by
    intro d
    induction d with
    | zero => exact fun _ _ _ _ _ _ hd => absurd hd (Nat.not_lt_zero _)
    | succ d ih_100 =>
      intro i V1 N1 H locs ls hd iv_0 iv_1 iv_2 iv_3 iv_4 hP hS hl
      refine lv_iload_n hx hb dX7_commits_100 rfl (lv_at hl 3 rfl) ?_
      refine lv_bipush (v := nI 12) hx hb dX7_commits_101 (by decide) ?_
      first
        | refine kic_ge (tgt := 192) hx hb dX7_commits_103 (by decide) (by with_reducible rfl) (by with_reducible rfl) (by omega) (by omega) (fun c_103 => ?_) (fun c_103 => ?_)
        | refine lv_icmp_ge (tgt := 192) hx hb dX7_commits_103 (by decide) (fun c_103 => ?_) (fun c_103 => ?_)
      · skip
        exact hret _ _ _ _ _ (by rw [show i = 12 by omega] at iv_1; rw [coN, ← iv_1]) hP hS dX7_commits_192
      · skip
        refine lv_aload_n hx hb dX7_commits_106 rfl (lv_at hl 0 rfl) ?_
        refine lv_iload_n hx hb dX7_commits_107 rfl (lv_at hl 1 rfl) ?_
        refine lv_iconst (v := nI 4) hx hb dX7_commits_108 (by decide) ?_
        refine kcV X hP hS (c_X7_ofR l hI (by first | assumption | omega)) oJ v_X7_32 ⟨Nat.le_of_ble_eq_true rfl, Nat.le_of_ble_eq_true rfl, rfl, rfl⟩ rfl rfl (Nat.le_of_ble_eq_true rfl) hl.1 ⟨Nat.zero_le _, Nat.zero_le _⟩ dX7_commits_109 (fun r_109 G_109 H locs hR hP hS => ?_)
        obtain ⟨rfl, hG_109⟩ := hR
        rw [hG_109] at hP
        clear hG_109
        rw [rw1_1, iv_4 _ (by omega) (by omega)]
        refine lv_iload_n hx hb dX7_commits_112 rfl (lv_at hl 3 rfl) ?_
        refine kcS X hP hS (c_X7_has l hI) v_X7_111 ⟨Nat.le_of_ble_eq_true rfl, Nat.le_of_ble_eq_true rfl, rfl, rfl⟩ rfl rfl (Nat.le_of_ble_eq_true rfl) hl.1 ⟨Nat.zero_le _, Nat.zero_le _⟩ dX7_commits_113 (fun r_113 G_113 H locs hR hP hS => ?_)
        obtain ⟨rfl, hG_113⟩ := hR
        rw [hG_113] at hP
        clear hG_113
        first
          | refine kif_eq (tgt := 186) hx hb dX7_commits_116 (by decide) (fun c_116 => ?_) (fun c_116 => ?_)
          | refine lv_if_eq (tgt := 186) hx hb dX7_commits_116 (by decide) (fun c_116 => ?_) (fun c_116 => ?_)
        · skip
          first
            | refine kinc (q := 3) hx hb dX7_commits_186 hl rfl (by decide) (kp_4_3 rfl) (fun ls hl => ?_)
            | refine kincG (q := 3) hx hb dX7_commits_186 hl rfl (by decide) (kp_4_3 rfl) (fun ls hl => ?_)
          refine lv_goto (tgt := 100) hx hb dX7_commits_189 (by decide) ?_
          exact ih_100 _ _ _ _ _ _ (by omega) (by omega) (caA_s iv_1 (if_neg c_116)) (by omega) (iv_3) (iv_4) hP hS (lv_sub hl [0,1,2,3] rfl)
        · skip
          refine lv_sipush (v := nI 809) hx hb dX7_commits_119 (by decide) ?_
          refine lv_iconst (v := nI 3) hx hb dX7_commits_122 (by decide) ?_
          refine lv_aload_n hx hb dX7_commits_123 rfl (lv_at hl 0 rfl) ?_
          refine kget X hP oJ g_X7_7 rfl dX7_commits_124 ?_
          refine lv_bipush (v := nI 8) hx hb dX7_commits_127 (by decide) ?_
          refine kiald X hP aJ1 (by omega) dX7_commits_129 ?_
          rw [rw1_1, iv_3.1]
          first
            | refine kmul hx hb dX7_commits_130 (by with_reducible rfl) (by with_reducible rfl) ?_
            | refine lv_imul hx hb dX7_commits_130 ?_
          first
            | refine kadd hx hb dX7_commits_131 (by with_reducible rfl) (by with_reducible rfl) ?_
            | refine lv_iadd hx hb dX7_commits_131 ?_
          refine kistW hx hb dX7_commits_132 hl (by decide) (kp_4_4 rfl) (fun ls hl => ?_)
          refine lv_aload_n hx hb dX7_commits_134 rfl (lv_at hl 0 rfl) ?_
          refine kget X hP oJ g_X7_7 rfl dX7_commits_135 ?_
          refine lv_iload hx hb dX7_commits_138 (lv_at hl 4 rfl) ?_
          refine lv_iload_n hx hb dX7_commits_140 rfl (lv_at hl 3 rfl) ?_
          refine kiast X hI hP hS aJ1 (by omega) dX7_commits_141 (fun H locs hP hS => ?_)
          rw [rw1_s] at hP
          refine lv_aload_n hx hb dX7_commits_142 rfl (lv_at hl 0 rfl) ?_
          refine kget X hP oJ g_X7_7 rfl dX7_commits_143 ?_
          refine lv_iload hx hb dX7_commits_146 (lv_at hl 4 rfl) ?_
          refine lv_iconst (v := nI 1) hx hb dX7_commits_148 (by decide) ?_
          first
            | refine kadd hx hb dX7_commits_149 (by with_reducible rfl) (by with_reducible rfl) ?_
            | refine lv_iadd hx hb dX7_commits_149 ?_
          refine lv_aload_n hx hb dX7_commits_150 rfl (lv_at hl 0 rfl) ?_
          refine kget X hP oJ g_X7_7 rfl dX7_commits_151 ?_
          refine lv_iconst (v := nI 0) hx hb dX7_commits_154 (by decide) ?_
          refine kiald X hP aJ1 (by omega) dX7_commits_155 ?_
          rw [rw1_1, upd_ne (by omega), iv_3.2]
          refine kiast X hI hP hS aJ1 (by omega) dX7_commits_156 (fun H locs hP hS => ?_)
          rw [rw1_s] at hP
          refine lv_aload_n hx hb dX7_commits_157 rfl (lv_at hl 0 rfl) ?_
          refine kget X hP oJ g_X7_7 rfl dX7_commits_158 ?_
          refine lv_iload hx hb dX7_commits_161 (lv_at hl 4 rfl) ?_
          refine lv_iconst (v := nI 2) hx hb dX7_commits_163 (by decide) ?_
          first
            | refine kadd hx hb dX7_commits_164 (by with_reducible rfl) (by with_reducible rfl) ?_
            | refine lv_iadd hx hb dX7_commits_164 ?_
          refine lv_aload_n hx hb dX7_commits_165 rfl (lv_at hl 0 rfl) ?_
          refine lv_iload_n hx hb dX7_commits_166 rfl (lv_at hl 1 rfl) ?_
          refine lv_bipush (v := nI 8) hx hb dX7_commits_167 (by decide) ?_
          refine lv_iload_n hx hb dX7_commits_169 rfl (lv_at hl 3 rfl) ?_
          first
            | refine kadd hx hb dX7_commits_170 (by with_reducible rfl) (by with_reducible rfl) ?_
            | refine lv_iadd hx hb dX7_commits_170 ?_
          refine kcV X hP hS (c_X7_ofR l hI (by first | assumption | omega)) oJ v_X7_32 ⟨Nat.le_of_ble_eq_true rfl, Nat.le_of_ble_eq_true rfl, rfl, rfl⟩ rfl rfl (Nat.le_of_ble_eq_true rfl) hl.1 ⟨Nat.zero_le _, Nat.zero_le _⟩ dX7_commits_171 (fun r_171 G_171 H locs hR hP hS => ?_)
          obtain ⟨rfl, hG_171⟩ := hR
          rw [hG_171] at hP
          clear hG_171
          rw [rw1_1, upd_ne (by omega), upd_ne (by omega), iv_4 _ (by omega) (by omega)]
          refine kiast X hI hP hS aJ1 (by omega) dX7_commits_174 (fun H locs hP hS => ?_)
          rw [rw1_s] at hP
          refine lv_aload_n hx hb dX7_commits_175 rfl (lv_at hl 0 rfl) ?_
          refine kget X hP oJ g_X7_7 rfl dX7_commits_176 ?_
          refine lv_bipush (v := nI 8) hx hb dX7_commits_179 (by decide) ?_
          refine lv_dup2_11 hx hb dX7_commits_181 rfl rfl ?_
          refine kiald X hP aJ1 (by omega) dX7_commits_182 ?_
          rw [rw1_1, upd_ne (by omega), upd_ne (by omega), upd_ne (by omega), iv_3.1]
          refine lv_iconst (v := nI 1) hx hb dX7_commits_183 (by decide) ?_
          first
            | refine kadd hx hb dX7_commits_184 (by with_reducible rfl) (by with_reducible rfl) ?_
            | refine lv_iadd hx hb dX7_commits_184 ?_
          refine kiast X hI hP hS aJ1 (by omega) dX7_commits_185 (fun H locs hP hS => ?_)
          rw [rw1_s] at hP
          first
            | refine kinc (q := 3) hx hb dX7_commits_186 hl rfl (by decide) (kp_5_3 rfl) (fun ls hl => ?_)
            | refine kincG (q := 3) hx hb dX7_commits_186 hl rfl (by decide) (kp_5_3 rfl) (fun ls hl => ?_)
          refine lv_goto (tgt := 100) hx hb dX7_commits_189 (by decide) ?_
          exact ih_100 _ _ _ _ _ _ (by omega) (by omega) (caA_s iv_1 (if_pos c_116)) (by omega) (⟨upd_eq, by rw [upd_ne (by omega), upd_ne (by omega), upd_ne (by omega), upd_ne (by omega)]; exact iv_3.2⟩) (fun f h1 h2 => by rw [upd_ne (by omega), upd_ne (by omega), upd_ne (by omega), upd_ne (by omega)]; exact iv_4 f h1 h2) hP hS (lv_sub hl [0,1,2,3] rfl)
  exact lp_100 _ 0 Wn _ _ _ _ (Nat.lt_succ_self _) (Nat.zero_le _) (rfl) (Nat.le_refl _) (⟨by rw [chN_lo (by omega)]; exact hW, by unfold chN; rw [upd_ne (by omega), upd_ne (by omega), upd_ne (by omega), upd_ne (by omega), upd_ne (by omega), upd_ne (by omega), upd_eq]⟩) (fun f h1 h2 => chN_lo (by omega)) hP hS (lv_sub hl [0,1,2,3] rfl)
