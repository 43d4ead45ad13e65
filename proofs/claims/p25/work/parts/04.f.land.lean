
theorem cn_congr {f g : Nat → Nat} {n : Nat} (h : ∀ i, i < n → f i = g i) : cn f n = cn g n := by
  induction n with
  | zero => rfl
  | succ n ih => rw [cn, cn, ih (fun i hi => h i (by omega)), h n (by omega)]
theorem sm_congr {f g : Nat → Int32} {n : Nat} (h : ∀ i, i < n → f i = g i) : sm f n = sm g n := by
  induction n with
  | zero => rfl
  | succ n ih => rw [sm, sm, ih (fun i hi => h i (by omega)), h n (by omega)]
def skN (G : Nat → Nat → Int32) (j r : Nat) : Nat → Nat := fun q => if skF (G (mC j q)) (G (rN j r)) then 1 else 0
theorem skN_congr {G G' : Nat → Nat → Int32} {j r k : Nat} (h1 : ∀ q, q < k → G' (mC j q) = G (mC j q)) (h2 : G' (rN j r) = G (rN j r)) : cn (fun q => if skF (G' (mC j q)) (G' (rN j r)) then 1 else 0) k = cn (skN G j r) k := by
  refine cn_congr (fun q hq => ?_)
  show (if skF (G' (mC j q)) (G' (rN j r)) then 1 else 0) = _
  rw [h1 q hq, h2]
  rfl
/-- a new version in front -/
def PU (G G' : Nat → Nat → Int32) (j c P : Nat) (x y : Int32) : Prop := G' (cB j c) 2 = nI (P + 1) ∧ G' (cV j c) 0 = x ∧ G' (cM j c) 0 = y ∧ ∀ p, p < P → G' (cV j c) (p + 1) = G (cV j c) p ∧ G' (cM j c) (p + 1) = G (cM j c) p
def CS (G G' : Nat → Nat → Int32) (j c : Nat) : Prop := G' (cB j c) = G (cB j c) ∧ G' (cV j c) = G (cV j c) ∧ G' (cM j c) = G (cM j c)
theorem PU_to {G G1 G2 : Nat → Nat → Int32} {j c P : Nat} {x y : Int32} (h : PU G G1 j c P x y) (q : CS G1 G2 j c) : PU G G2 j c P x y := by
  unfold PU
  rw [q.1, q.2.1, q.2.2]
  exact h
theorem PU_of {G G1 G2 : Nat → Nat → Int32} {j c P : Nat} {x y : Int32} (h : PU G1 G2 j c P x y) (q : CS G G1 j c) : PU G G2 j c P x y := by
  unfold PU at h ⊢
  rw [q.2.1, q.2.2] at h
  exact h
theorem CS_t {G G1 G2 : Nat → Nat → Int32} {j c : Nat} (h : CS G G1 j c) (q : CS G1 G2 j c) : CS G G2 j c := ⟨q.1.trans h.1, q.2.1.trans h.2.1, q.2.2.trans h.2.2⟩
set_option maxHeartbeats 4000000 in
set_option maxRecDepth 100000 in
theorem c_X4_noteCommit (l : Launch) {D : va_G} {τ : Nat → ClassId} {ad : Nat → Nat} (hI : kInj ad) {G : Nat → Nat → Int32} {j n k r mm : Nat} (hj : j < 7) (hk : G (sB j) 7 = nI k) (hk4 : k < 40) (hr : r < 40) (hm : G (sB j) 3 = nI mm) : kMv l yX4_noteCommit cX4_noteCommit 4 { frames := 2, cells := 0, slots := 0, locals := 44 } D τ ad [.ref (ad (sB j)), .int (nI r)] G (fun G' => (∀ q, q ≠ mC j k → q ≠ sB j → G' q = G q) ∧ (∀ f, f ≠ 7 → G' (sB j) f = G (sB j) f) ∧ G' (sB j) 7 = nI (k + 1) ∧ G' (mC j k) 0 = nI r ∧ G' (mC j k) 1 = G (rN j r) 2 ∧ G' (mC j k) 2 = nI (mm + 1) ∧ G' (mC j k) 3 = G (rN j r) 5 ∧ G' (mC j k) 4 = G (rN j r) 4 ∧ G' (mC j k) 5 = nI (cn (skN G j r) k)) := by
  refine kMetV (own := RX4) (by decide) rfl (Nat.le_of_ble_eq_true rfl) ?_
  intro p9 e9 s9 m9 args9 below9 meth9 c9 Q9 X hx hb hP hS hret ls hl
  have hPs := hP
  have hl : lv_has ls 4 [(0, .ref (ad (sB j))), (1, .int (nI r))] := hl
  have z0 : sB j ≠ mC j k := by unfold sB mC; omega
  have z1 : rN j r ≠ mC j k := by unfold rN mC; omega
  refine lv_aload_n hx hb dX4_noteCommit_0 rfl (lv_at hl 0 rfl) ?_
  refine kget X hP (oS (by first | assumption | omega)) g_X4_50 (congrArg (fun z => some (Value.int z)) hk) dX4_noteCommit_1 ?_
  refine lv_bipush (v := nI 40) hx hb dX4_noteCommit_4 (by decide) ?_
  first
    | refine kic_lt (tgt := 10) hx hb dX4_noteCommit_6 (by decide) (by with_reducible rfl) (by with_reducible rfl) (by omega) (by omega) (fun c_6 => ?_) (fun c_6 => ?_)
    | refine lv_icmp_lt (tgt := 10) hx hb dX4_noteCommit_6 (by decide) (fun c_6 => ?_) (fun c_6 => ?_)
  · skip
    refine lv_aload_n hx hb dX4_noteCommit_10 rfl (lv_at hl 0 rfl) ?_
    refine kget X hP (oS (by first | assumption | omega)) g_X4_19 rfl dX4_noteCommit_11 ?_
    refine lv_iload_n hx hb dX4_noteCommit_14 rfl (lv_at hl 1 rfl) ?_
    refine kaald X hP (qR (by first | assumption | omega)) (by first | assumption | omega) rfl dX4_noteCommit_15 ?_
    refine kast hx hb dX4_noteCommit_16 rfl hl (by decide) (kp_2_2 rfl) (fun ls hl => ?_)
    refine lv_aload_n hx hb dX4_noteCommit_17 rfl (lv_at hl 0 rfl) ?_
    refine kget X hP (oS (by first | assumption | omega)) g_X4_25 rfl dX4_noteCommit_18 ?_
    refine lv_aload_n hx hb dX4_noteCommit_21 rfl (lv_at hl 0 rfl) ?_
    refine kget X hP (oS (by first | assumption | omega)) g_X4_50 (congrArg (fun z => some (Value.int z)) hk) dX4_noteCommit_22 ?_
    refine kaald X hP (qM (by first | assumption | omega)) (by first | assumption | omega) rfl dX4_noteCommit_25 ?_
    refine kast hx hb dX4_noteCommit_26 rfl hl (by decide) (kp_3_3 rfl) (fun ls hl => ?_)
    refine lv_aload_n hx hb dX4_noteCommit_27 rfl (lv_at hl 3 rfl) ?_
    refine lv_iload_n hx hb dX4_noteCommit_28 rfl (lv_at hl 1 rfl) ?_
    refine kput X hI hP hS (oM (by first | assumption | omega) (by first | assumption | omega)) g_X4_168 (fun _ => rfl) rfl (fun _ => Nat.le_of_ble_eq_true rfl) rfl rfl dX4_noteCommit_29 (fun H locs hP hS => ?_)
    refine lv_aload_n hx hb dX4_noteCommit_32 rfl (lv_at hl 3 rfl) ?_
    refine lv_aload_n hx hb dX4_noteCommit_33 rfl (lv_at hl 2 rfl) ?_
    refine kget X hP (oR (by first | assumption | omega) (by first | assumption | omega)) g_X4_90 rfl dX4_noteCommit_34 ?_
    refine kput X hI hP hS (oM (by first | assumption | omega) (by first | assumption | omega)) g_X4_171 (fun _ => rfl) rfl (fun _ => Nat.le_of_ble_eq_true rfl) rfl rfl dX4_noteCommit_37 (fun H locs hP hS => ?_)
    refine lv_aload_n hx hb dX4_noteCommit_40 rfl (lv_at hl 3 rfl) ?_
    refine lv_aload_n hx hb dX4_noteCommit_41 rfl (lv_at hl 0 rfl) ?_
    refine kget X hP (oS (by first | assumption | omega)) g_X4_56 (congrArg (fun z => some (Value.int z)) (by simp [gs, z0, hm] : _ = nI mm)) dX4_noteCommit_42 ?_
    refine lv_iconst (v := nI 1) hx hb dX4_noteCommit_45 (by decide) ?_
    first
      | refine kadd hx hb dX4_noteCommit_46 (by with_reducible rfl) (by with_reducible rfl) ?_
      | refine lv_iadd hx hb dX4_noteCommit_46 ?_
    refine kput X hI hP hS (oM (by first | assumption | omega) (by first | assumption | omega)) g_X4_174 (fun _ => rfl) rfl (fun _ => Nat.le_of_ble_eq_true rfl) rfl rfl dX4_noteCommit_47 (fun H locs hP hS => ?_)
    refine lv_aload_n hx hb dX4_noteCommit_50 rfl (lv_at hl 3 rfl) ?_
    refine lv_aload_n hx hb dX4_noteCommit_51 rfl (lv_at hl 2 rfl) ?_
    refine kget X hP (oR (by first | assumption | omega) (by first | assumption | omega)) g_X4_158 rfl dX4_noteCommit_52 ?_
    refine kput X hI hP hS (oM (by first | assumption | omega) (by first | assumption | omega)) g_X4_177 (fun _ => rfl) rfl (fun _ => Nat.le_of_ble_eq_true rfl) rfl rfl dX4_noteCommit_55 (fun H locs hP hS => ?_)
    refine lv_aload_n hx hb dX4_noteCommit_58 rfl (lv_at hl 3 rfl) ?_
    refine lv_aload_n hx hb dX4_noteCommit_59 rfl (lv_at hl 2 rfl) ?_
    refine kget X hP (oR (by first | assumption | omega) (by first | assumption | omega)) g_X4_178 rfl dX4_noteCommit_60 ?_
    refine kput X hI hP hS (oM (by first | assumption | omega) (by first | assumption | omega)) g_X4_181 (fun _ => rfl) rfl (fun _ => Nat.le_of_ble_eq_true rfl) rfl rfl dX4_noteCommit_63 (fun H locs hP hS => ?_)
    refine lv_aload_n hx hb dX4_noteCommit_66 rfl (lv_at hl 3 rfl) ?_
    refine lv_aload_n hx hb dX4_noteCommit_67 rfl (lv_at hl 0 rfl) ?_
    refine lv_aload_n hx hb dX4_noteCommit_68 rfl (lv_at hl 2 rfl) ?_
    refine kcV X hP hS (c_X4_skewsOf l hI (k := k) hj (by simp [gs, z0, hk]) (by omega) hr) (oS (by first | assumption | omega)) v_X4_182 ⟨Nat.le_of_ble_eq_true rfl, Nat.le_of_ble_eq_true rfl, rfl, rfl⟩ rfl rfl (Nat.le_of_ble_eq_true rfl) hl.1 ⟨Nat.zero_le _, Nat.zero_le _⟩ dX4_noteCommit_69 (fun r_69 G_69 H locs hR hP hS => ?_)
    obtain ⟨rfl, hG_69⟩ := hR
    rw [hG_69] at hP
    clear hG_69
    rw [skN_congr (G := G) (fun q hq => by rw [gs_other (by unfold mC; omega), gs_other (by unfold mC; omega), gs_other (by unfold mC; omega), gs_other (by unfold mC; omega), gs_other (by unfold mC; omega)]) (by rw [gs_other z1, gs_other z1, gs_other z1, gs_other z1, gs_other z1])]
    refine kput X hI hP hS (oM (by first | assumption | omega) (by first | assumption | omega)) g_X4_150 (fun _ => rfl) rfl (fun _ => Nat.le_of_ble_eq_true rfl) rfl rfl dX4_noteCommit_72 (fun H locs hP hS => ?_)
    refine lv_aload_n hx hb dX4_noteCommit_75 rfl (lv_at hl 0 rfl) ?_
    refine lv_dup hx hb dX4_noteCommit_76 rfl ?_
    refine kget X hP (oS (by first | assumption | omega)) g_X4_50 (congrArg (fun z => some (Value.int z)) (by simp [gs, z0, hk] : _ = nI k)) dX4_noteCommit_77 ?_
    refine lv_iconst (v := nI 1) hx hb dX4_noteCommit_80 (by decide) ?_
    first
      | refine kadd hx hb dX4_noteCommit_81 (by with_reducible rfl) (by with_reducible rfl) ?_
      | refine lv_iadd hx hb dX4_noteCommit_81 ?_
    refine kput X hI hP hS (oS (by first | assumption | omega)) g_X4_50 (fun _ => rfl) rfl (fun _ => Nat.le_of_ble_eq_true rfl) rfl rfl dX4_noteCommit_82 (fun H locs hP hS => ?_)
    exact hret _ _ _ _ _ (by
        refine ⟨fun q h1 h2 => ?_, fun f hf => ?_, ?_, ?_, ?_, ?_, ?_, ?_, ?_⟩
        · funext f; simp [gs, h1, h2]
        · simp [gs, z0, hf]
        · simp [gs]
        all_goals simp [gs, z0.symm, z1]) hP hS dX4_noteCommit_85
  · skip
    exact absurd c_6 (by omega)

set_option maxHeartbeats 4000000 in
set_option maxRecDepth 100000 in
theorem c_X4_pushWrites (l : Launch) {D : va_G} {τ : Nat → ClassId} {ad : Nat → Nat} (hI : kInj ad) {G : Nat → Nat → Int32} {j r : Nat} {P : Nat → Nat} (hj : j < 7) (hr : r < 40) (hp : ∀ c, c < 12 → G (cB j c) 2 = nI (P c) ∧ P c ≤ 9) : kMv l yX4_pushWrites cX4_pushWrites 3 { frames := 2, cells := 0, slots := 0, locals := 62 } D τ ad [.ref (ad (sB j)), .ref (ad (rN j r))] G (fun G' => (∀ c, c < 12 → (hw (G (rN j r) 5) c → PU G G' j c (P c) (G (rW j r) c) (G (sB j) 3)) ∧ (¬ hw (G (rN j r) 5) c → CS G G' j c)) ∧ ∀ k, (∀ c, c < 12 → k ≠ cB j c ∧ k ≠ cV j c ∧ k ≠ cM j c) → G' k = G k) := by
  refine kMetV (own := RX4) (by decide) rfl (Nat.le_of_ble_eq_true rfl) ?_
  intro p9 e9 s9 m9 args9 below9 meth9 c9 Q9 X hx hb hP hS hret ls hl
  have hPs := hP
  have hl : lv_has ls 3 [(0, .ref (ad (sB j))), (1, .ref (ad (rN j r)))] := hl
  refine lv_iconst (v := nI 0) hx hb dX4_pushWrites_0 (by decide) ?_
  refine kist hx hb dX4_pushWrites_1 rfl hl (by decide) (kp_2_2 rfl) (fun ls hl => ?_)
  have lp_2 : ∀ (d : Nat) (i : Nat) (G1 : Nat → Nat → Int32) (H : Heap) (locs : List Loc) (ls : Array Slot), (12 - i) < d → (i ≤ 12) → (∀ k, (∀ c, c < i → k ≠ cB j c ∧ k ≠ cV j c ∧ k ≠ cM j c) → G1 k = G k) → (∀ c, c < i → (hw (G (rN j r) 5) c → PU G G1 j c (P c) (G (rW j r) c) (G (sB j) 3)) ∧ (¬ hw (G (rN j r) 5) c → CS G G1 j c)) → va_P D vwCl (kW τ ad G1) H → va_S (kAd ad) s9.heap H locs → lv_has ls 3 [(0, .ref (ad (sB j))), (1, .ref (ad (rN j r))), (2, .int (nI i))] → W p9 l e9 { frames := 2, cells := 0, slots := 0, locals := 62 } s9 m9 args9 below9 meth9 c9 H locs 0 0 Q9 (F0 m9 2 ls []) := by
    intro d
    induction d with
    | zero => exact fun _ _ _ _ _ hd => absurd hd (Nat.not_lt_zero _)
    | succ d ih_2 =>
      intro i G1 H locs ls hd iv_0 iv_1 iv_2 hP hS hl
      have er : G1 (rN j r) = G (rN j r) := iv_1 _ (fun c hc => by unfold rN cB cV cM; omega)
      have ew : G1 (rW j r) = G (rW j r) := iv_1 _ (fun c hc => by unfold rW cB cV cM; omega)
      have e3 : G1 (sB j) = G (sB j) := iv_1 _ (fun c hc => by unfold sB cB cV cM; omega)
      have ev : G1 (cV j i) = G (cV j i) := iv_1 _ (fun c hc => by unfold cB cV cM; omega)
      have em : G1 (cM j i) = G (cM j i) := iv_1 _ (fun c hc => by unfold cB cV cM; omega)
      have eb : G1 (cB j i) = G (cB j i) := iv_1 _ (fun c hc => by unfold cB cV cM; omega)
      refine lv_iload_n hx hb dX4_pushWrites_2 rfl (lv_at hl 2 rfl) ?_
      refine lv_bipush (v := nI 12) hx hb dX4_pushWrites_3 (by decide) ?_
      first
        | refine kic_ge (tgt := 41) hx hb dX4_pushWrites_5 (by decide) (by with_reducible rfl) (by with_reducible rfl) (by omega) (by omega) (fun c_5 => ?_) (fun c_5 => ?_)
        | refine lv_icmp_ge (tgt := 41) hx hb dX4_pushWrites_5 (by decide) (fun c_5 => ?_) (fun c_5 => ?_)
      · skip
        exact hret _ _ _ _ _ (by have ei : i = 12 := (by omega); rw [ei] at iv_1 iv_2; exact ⟨iv_2, iv_1⟩) hP hS dX4_pushWrites_41
      · skip
        refine lv_aload_n hx hb dX4_pushWrites_8 rfl (lv_at hl 1 rfl) ?_
        refine lv_iload_n hx hb dX4_pushWrites_9 rfl (lv_at hl 2 rfl) ?_
        refine kcV X hP hS (c_X3_hasWrite l hI (by first | assumption | omega) (by first | assumption | omega)) (oR (by first | assumption | omega) (by first | assumption | omega)) v_X4_86 ⟨Nat.le_of_ble_eq_true rfl, Nat.le_of_ble_eq_true rfl, rfl, rfl⟩ rfl rfl (Nat.le_of_ble_eq_true rfl) hl.1 ⟨Nat.zero_le _, Nat.zero_le _⟩ dX4_pushWrites_10 (fun r_10 G_10 H locs hR hP hS => ?_)
        obtain ⟨rfl, hG_10⟩ := hR
        rw [hG_10] at hP
        clear hG_10
        first
          | refine kif_eq (tgt := 35) hx hb dX4_pushWrites_13 (by decide) (fun c_13 => ?_) (fun c_13 => ?_)
          | refine lv_if_eq (tgt := 35) hx hb dX4_pushWrites_13 (by decide) (fun c_13 => ?_) (fun c_13 => ?_)
        · skip
          first
            | refine kinc (q := 2) hx hb dX4_pushWrites_35 hl rfl (by decide) (kp_3_2 rfl) (fun ls hl => ?_)
            | refine kincG (q := 2) hx hb dX4_pushWrites_35 hl rfl (by decide) (kp_3_2 rfl) (fun ls hl => ?_)
          refine lv_goto (tgt := 2) hx hb dX4_pushWrites_38 (by decide) ?_
          exact ih_2 _ _ _ _ _ (by omega) (by omega) (fun k hk => iv_1 k (fun c hc => hk c (by omega))) (fun c hc => by
                  rcases Nat.lt_or_ge c i with q | q
                  · exact iv_2 c q
                  · have e : c = i := (by omega)
                    subst e
                    exact ⟨fun z => absurd (by rw [er]; exact z) c_13, fun _ => ⟨eb, ev, em⟩⟩) hP hS (lv_sub hl [0,1,2] rfl)
        · skip
          refine lv_aload_n hx hb dX4_pushWrites_16 rfl (lv_at hl 0 rfl) ?_
          refine kget X hP (oS (by first | assumption | omega)) g_X4_11 rfl dX4_pushWrites_17 ?_
          refine lv_iload_n hx hb dX4_pushWrites_20 rfl (lv_at hl 2 rfl) ?_
          refine kaald X hP (qC (by first | assumption | omega)) (by first | assumption | omega) rfl dX4_pushWrites_21 ?_
          refine lv_aload_n hx hb dX4_pushWrites_22 rfl (lv_at hl 1 rfl) ?_
          refine kget X hP (oR (by first | assumption | omega) (by first | assumption | omega)) g_X4_185 rfl dX4_pushWrites_23 ?_
          refine lv_iload_n hx hb dX4_pushWrites_26 rfl (lv_at hl 2 rfl) ?_
          refine kiald X hP (aW (by first | assumption | omega) (by first | assumption | omega)) (by omega) dX4_pushWrites_27 ?_
          refine lv_aload_n hx hb dX4_pushWrites_28 rfl (lv_at hl 0 rfl) ?_
          refine kget X hP (oS (by first | assumption | omega)) g_X4_56 rfl dX4_pushWrites_29 ?_
          refine kcVv X hP hS (c_X0_push l hI (P := P i) hj (by omega) (by rw [eb]; exact (hp i (by omega)).1) (hp i (by omega)).2) (oC (by first | assumption | omega) (by first | assumption | omega)) v_X4_188 ⟨Nat.le_of_ble_eq_true rfl, Nat.le_of_ble_eq_true rfl, rfl, rfl⟩ rfl rfl (Nat.le_of_ble_eq_true rfl) hl.1 ⟨Nat.zero_le _, Nat.zero_le _⟩ dX4_pushWrites_32 (fun G_32 H locs hR hP hS => ?_)
          have h_32 := hR
          first
            | refine kinc (q := 2) hx hb dX4_pushWrites_35 hl rfl (by decide) (kp_3_2 rfl) (fun ls hl => ?_)
            | refine kincG (q := 2) hx hb dX4_pushWrites_35 hl rfl (by decide) (kp_3_2 rfl) (fun ls hl => ?_)
          refine lv_goto (tgt := 2) hx hb dX4_pushWrites_38 (by decide) ?_
          exact ih_2 _ _ _ _ _ (by omega) (by omega) (fun k hk => by rw [h_32.1 k (hk i (by omega)).1 (hk i (by omega)).2.1 (hk i (by omega)).2.2]; exact iv_1 k (fun c hc => hk c (by omega))) (fun c hc => by
                  rcases Nat.lt_or_ge c i with q | q
                  · have cs : CS G1 G_32 j c := ⟨h_32.1 _ (by unfold cB; omega) (by unfold cB cV; omega) (by unfold cB cM; omega), h_32.1 _ (by unfold cV cB; omega) (by unfold cV; omega) (by unfold cV cM; omega), h_32.1 _ (by unfold cM cB; omega) (by unfold cM cV; omega) (by unfold cM; omega)⟩
                    exact ⟨fun z => PU_to ((iv_2 c q).1 z) cs, fun z => CS_t ((iv_2 c q).2 z) cs⟩
                  · have e : c = i := (by omega)
                    subst e
                    have hh : PU G1 G_32 j c (P c) (G1 (rW j r) c) (G1 (sB j) 3) := h_32.2
                    rw [ew, e3] at hh
                    exact ⟨fun _ => PU_of hh ⟨eb, ev, em⟩, fun z => absurd (by rw [← er]; exact c_13) z⟩) hP hS (lv_sub hl [0,1,2] rfl)
  exact lp_2 _ 0 G _ _ _ (Nat.lt_succ_self _) (Nat.zero_le _) (fun _ _ => rfl) (fun c h => absurd h (by omega)) hP hS (lv_sub hl [0,1,2] rfl)

/-- of one state's block what another's holds -/
def CE (G G' : Nat → Nat → Int32) (j j2 c : Nat) : Prop := (∀ p, p < 10 → G' (cV j c) p = G (cV j2 c) p ∧ G' (cM j c) p = G (cM j2 c) p) ∧ G' (cB j c) 2 = G (cB j2 c) 2
def RE (G G' : Nat → Nat → Int32) (j j2 r : Nat) : Prop := (∀ p, p < 12 → G' (rW j r) p = G (rW j2 r) p) ∧ ∀ f, 1 ≤ f → f ≤ 8 → G' (rN j r) f = G (rN j2 r) f
def ME (G G' : Nat → Nat → Int32) (j j2 q : Nat) : Prop := ∀ f, f < 6 → G' (mC j q) f = G (mC j2 q) f
theorem CE_k {G G1 G2 : Nat → Nat → Int32} {j j2 c : Nat} (h : CE G G1 j j2 c) (q : CS G1 G2 j c) : CE G G2 j j2 c := by
  unfold CE
  rw [q.1, q.2.1, q.2.2]
  exact h
theorem RE_k {G G1 G2 : Nat → Nat → Int32} {j j2 r : Nat} (h : RE G G1 j j2 r) (q1 : G2 (rN j r) = G1 (rN j r)) (q2 : G2 (rW j r) = G1 (rW j r)) : RE G G2 j j2 r := by
  unfold RE
  rw [q1, q2]
  exact h
theorem ME_k {G G1 G2 : Nat → Nat → Int32} {j j2 q : Nat} (h : ME G G1 j j2 q) (q1 : G2 (mC j q) = G1 (mC j q)) : ME G G2 j j2 q := by
  unfold ME
  rw [q1]
  exact h
def CPY (G G' : Nat → Nat → Int32) (j j2 n k : Nat) : Prop := (∀ q, (q < sB j ∨ sB j + 161 ≤ q) → G' q = G q) ∧ (∀ c, c < 12 → CE G G' j j2 c) ∧ (∀ r, r < n → RE G G' j j2 r) ∧ (∀ q, q < k → ME G G' j j2 q) ∧ ∀ f, 3 ≤ f → f ≤ 9 → G' (sB j) f = G (sB j2) f
set_option maxHeartbeats 4000000 in
set_option maxRecDepth 100000 in
theorem c_X4_copyFrom (l : Launch) {D : va_G} {τ : Nat → ClassId} {ad : Nat → Nat} (hI : kInj ad) {G : Nat → Nat → Int32} {j j2 n k : Nat} (hj : j < 7) (hj2 : j2 < 7) (hne : j ≠ j2) (hn : G (sB j2) 6 = nI n) (hn4 : n ≤ 40) (hk : G (sB j2) 7 = nI k) (hk4 : k ≤ 40) (hz : ∀ r, r < n → G (rN j2 r) 8 = 0 ∨ G (rN j2 r) 8 = 1) (hy : G (sB j2) 9 = 0 ∨ G (sB j2) 9 = 1) : kMv l yX4_copyFrom cX4_copyFrom 3 { frames := 2, cells := 0, slots := 0, locals := 61 } D τ ad [.ref (ad (sB j)), .ref (ad (sB j2))] G (fun G' => CPY G G' j j2 n k) := by
  refine kMetV (own := RX4) (by decide) rfl (Nat.le_of_ble_eq_true rfl) ?_
  intro p9 e9 s9 m9 args9 below9 meth9 c9 Q9 X hx hb hP hS hret ls hl
  have hPs := hP
  have hl : lv_has ls 3 [(0, .ref (ad (sB j))), (1, .ref (ad (sB j2)))] := hl
  refine lv_iconst (v := nI 0) hx hb dX4_copyFrom_0 (by decide) ?_
  refine kist hx hb dX4_copyFrom_1 rfl hl (by decide) (kp_2_2 rfl) (fun ls hl => ?_)
  have lp_2 : ∀ (d : Nat) (i : Nat) (G1 : Nat → Nat → Int32) (H : Heap) (locs : List Loc) (ls : Array Slot), (12 - i) < d → (i ≤ 12) → (∀ q, (q < sB j ∨ sB j + 161 ≤ q) → G1 q = G q) → (∀ c, c < i → CE G G1 j j2 c) → va_P D vwCl (kW τ ad G1) H → va_S (kAd ad) s9.heap H locs → lv_has ls 3 [(0, .ref (ad (sB j))), (1, .ref (ad (sB j2))), (2, .int (nI i))] → W p9 l e9 { frames := 2, cells := 0, slots := 0, locals := 61 } s9 m9 args9 below9 meth9 c9 H locs 0 0 Q9 (F0 m9 2 ls []) := by
    intro d
    induction d with
    | zero => exact fun _ _ _ _ _ hd => absurd hd (Nat.not_lt_zero _)
    | succ d ih_2 =>
      intro i G1 H locs ls hd iv_0 iv_1 iv_2 hP hS hl
      have ey : ∀ o, o < 161 → G1 (sB j2 + o) = G (sB j2 + o) := fun o ho => iv_1 _ (by unfold sB; omega)
      have e3 : G1 (sB j2) = G (sB j2) := ey 0 (by omega)
      refine lv_iload_n hx hb dX4_copyFrom_2 rfl (lv_at hl 2 rfl) ?_
      refine lv_bipush (v := nI 12) hx hb dX4_copyFrom_3 (by decide) ?_
      first
        | refine kic_ge (tgt := 29) hx hb dX4_copyFrom_5 (by decide) (by with_reducible rfl) (by with_reducible rfl) (by omega) (by omega) (fun c_5 => ?_) (fun c_5 => ?_)
        | refine lv_icmp_ge (tgt := 29) hx hb dX4_copyFrom_5 (by decide) (fun c_5 => ?_) (fun c_5 => ?_)
      · skip
        refine lv_iconst (v := nI 0) hx hb dX4_copyFrom_29 (by decide) ?_
        refine kist hx hb dX4_copyFrom_30 rfl hl (by decide) (kp_3_2 rfl) (fun ls hl => ?_)
        have lp_31 : ∀ (d : Nat) (i : Nat) (G1 : Nat → Nat → Int32) (H : Heap) (locs : List Loc) (ls : Array Slot), (n - i) < d → (i ≤ n) → (∀ q, (q < sB j ∨ sB j + 161 ≤ q) → G1 q = G q) → (∀ c, c < 12 → CE G G1 j j2 c) → (∀ r, r < i → RE G G1 j j2 r) → va_P D vwCl (kW τ ad G1) H → va_S (kAd ad) s9.heap H locs → lv_has ls 3 [(0, .ref (ad (sB j))), (1, .ref (ad (sB j2))), (2, .int (nI i))] → W p9 l e9 { frames := 2, cells := 0, slots := 0, locals := 61 } s9 m9 args9 below9 meth9 c9 H locs 0 0 Q9 (F0 m9 31 ls []) := by
          intro d
          induction d with
          | zero => exact fun _ _ _ _ _ hd => absurd hd (Nat.not_lt_zero _)
          | succ d ih_31 =>
            intro i G1 H locs ls hd iv_0 iv_1 iv_2 iv_3 hP hS hl
            have ey : ∀ o, o < 161 → G1 (sB j2 + o) = G (sB j2 + o) := fun o ho => iv_1 _ (by unfold sB; omega)
            have e3 : G1 (sB j2) = G (sB j2) := ey 0 (by omega)
            refine lv_iload_n hx hb dX4_copyFrom_31 rfl (lv_at hl 2 rfl) ?_
            refine lv_aload_n hx hb dX4_copyFrom_32 rfl (lv_at hl 1 rfl) ?_
            refine kget X hP (oS (by first | assumption | omega)) g_X4_44 (congrArg (fun z => some (Value.int z)) (show G1 (sB j2) 6 = nI n from by rw [e3]; exact hn)) dX4_copyFrom_33 ?_
            first
              | refine kic_ge (tgt := 60) hx hb dX4_copyFrom_36 (by decide) (by with_reducible rfl) (by with_reducible rfl) (by omega) (by omega) (fun c_36 => ?_) (fun c_36 => ?_)
              | refine lv_icmp_ge (tgt := 60) hx hb dX4_copyFrom_36 (by decide) (fun c_36 => ?_) (fun c_36 => ?_)
            · skip
              refine lv_iconst (v := nI 0) hx hb dX4_copyFrom_60 (by decide) ?_
              refine kist hx hb dX4_copyFrom_61 rfl hl (by decide) (kp_3_2 rfl) (fun ls hl => ?_)
              have lp_62 : ∀ (d : Nat) (i : Nat) (G1 : Nat → Nat → Int32) (H : Heap) (locs : List Loc) (ls : Array Slot), (k - i) < d → (i ≤ k) → (∀ q, (q < sB j ∨ sB j + 161 ≤ q) → G1 q = G q) → (∀ c, c < 12 → CE G G1 j j2 c) → (∀ r, r < n → RE G G1 j j2 r) → (∀ q, q < i → ME G G1 j j2 q) → va_P D vwCl (kW τ ad G1) H → va_S (kAd ad) s9.heap H locs → lv_has ls 3 [(0, .ref (ad (sB j))), (1, .ref (ad (sB j2))), (2, .int (nI i))] → W p9 l e9 { frames := 2, cells := 0, slots := 0, locals := 61 } s9 m9 args9 below9 meth9 c9 H locs 0 0 Q9 (F0 m9 62 ls []) := by
                intro d
                induction d with
                | zero => exact fun _ _ _ _ _ hd => absurd hd (Nat.not_lt_zero _)
                | succ d ih_62 =>
                  intro i G1 H locs ls hd iv_0 iv_1 iv_2 iv_3 iv_4 hP hS hl
                  have ey : ∀ o, o < 161 → G1 (sB j2 + o) = G (sB j2 + o) := fun o ho => iv_1 _ (by unfold sB; omega)
                  have e3 : G1 (sB j2) = G (sB j2) := ey 0 (by omega)
                  refine lv_iload_n hx hb dX4_copyFrom_62 rfl (lv_at hl 2 rfl) ?_
                  refine lv_aload_n hx hb dX4_copyFrom_63 rfl (lv_at hl 1 rfl) ?_
                  refine kget X hP (oS (by first | assumption | omega)) g_X4_50 (congrArg (fun z => some (Value.int z)) (show G1 (sB j2) 7 = nI k from by rw [e3]; exact hk)) dX4_copyFrom_64 ?_
                  first
                    | refine kic_ge (tgt := 91) hx hb dX4_copyFrom_67 (by decide) (by with_reducible rfl) (by with_reducible rfl) (by omega) (by omega) (fun c_67 => ?_) (fun c_67 => ?_)
                    | refine lv_icmp_ge (tgt := 91) hx hb dX4_copyFrom_67 (by decide) (fun c_67 => ?_) (fun c_67 => ?_)
                  · skip
                    have zs : sB j2 ≠ sB j := by unfold sB; omega
                    refine lv_aload_n hx hb dX4_copyFrom_91 rfl (lv_at hl 0 rfl) ?_
                    refine lv_aload_n hx hb dX4_copyFrom_92 rfl (lv_at hl 1 rfl) ?_
                    refine kget X hP (oS (by first | assumption | omega)) g_X4_56 rfl dX4_copyFrom_93 ?_
                    refine kput X hI hP hS (oS (by first | assumption | omega)) g_X4_56 (fun _ => rfl) rfl (fun _ => Nat.le_of_ble_eq_true rfl) rfl rfl dX4_copyFrom_96 (fun H locs hP hS => ?_)
                    refine lv_aload_n hx hb dX4_copyFrom_99 rfl (lv_at hl 0 rfl) ?_
                    refine lv_aload_n hx hb dX4_copyFrom_100 rfl (lv_at hl 1 rfl) ?_
                    refine kget X hP (oS (by first | assumption | omega)) g_X4_59 rfl dX4_copyFrom_101 ?_
                    refine kput X hI hP hS (oS (by first | assumption | omega)) g_X4_59 (fun _ => rfl) rfl (fun _ => Nat.le_of_ble_eq_true rfl) rfl rfl dX4_copyFrom_104 (fun H locs hP hS => ?_)
                    refine lv_aload_n hx hb dX4_copyFrom_107 rfl (lv_at hl 0 rfl) ?_
                    refine lv_aload_n hx hb dX4_copyFrom_108 rfl (lv_at hl 1 rfl) ?_
                    refine kget X hP (oS (by first | assumption | omega)) g_X4_29 rfl dX4_copyFrom_109 ?_
                    refine kput X hI hP hS (oS (by first | assumption | omega)) g_X4_29 (fun _ => rfl) rfl (fun _ => Nat.le_of_ble_eq_true rfl) rfl rfl dX4_copyFrom_112 (fun H locs hP hS => ?_)
                    refine lv_aload_n hx hb dX4_copyFrom_115 rfl (lv_at hl 0 rfl) ?_
                    refine lv_aload_n hx hb dX4_copyFrom_116 rfl (lv_at hl 1 rfl) ?_
                    refine kget X hP (oS (by first | assumption | omega)) g_X4_44 rfl dX4_copyFrom_117 ?_
                    refine kput X hI hP hS (oS (by first | assumption | omega)) g_X4_44 (fun _ => rfl) rfl (fun _ => Nat.le_of_ble_eq_true rfl) rfl rfl dX4_copyFrom_120 (fun H locs hP hS => ?_)
                    refine lv_aload_n hx hb dX4_copyFrom_123 rfl (lv_at hl 0 rfl) ?_
                    refine lv_aload_n hx hb dX4_copyFrom_124 rfl (lv_at hl 1 rfl) ?_
                    refine kget X hP (oS (by first | assumption | omega)) g_X4_50 rfl dX4_copyFrom_125 ?_
                    refine kput X hI hP hS (oS (by first | assumption | omega)) g_X4_50 (fun _ => rfl) rfl (fun _ => Nat.le_of_ble_eq_true rfl) rfl rfl dX4_copyFrom_128 (fun H locs hP hS => ?_)
                    refine lv_aload_n hx hb dX4_copyFrom_131 rfl (lv_at hl 0 rfl) ?_
                    refine lv_aload_n hx hb dX4_copyFrom_132 rfl (lv_at hl 1 rfl) ?_
                    refine kget X hP (oS (by first | assumption | omega)) g_X4_62 rfl dX4_copyFrom_133 ?_
                    refine kput X hI hP hS (oS (by first | assumption | omega)) g_X4_62 (fun _ => rfl) rfl (fun _ => Nat.le_of_ble_eq_true rfl) rfl rfl dX4_copyFrom_136 (fun H locs hP hS => ?_)
                    refine lv_aload_n hx hb dX4_copyFrom_139 rfl (lv_at hl 0 rfl) ?_
                    refine lv_aload_n hx hb dX4_copyFrom_140 rfl (lv_at hl 1 rfl) ?_
                    refine kget X hP (oS (by first | assumption | omega)) g_X4_65 rfl dX4_copyFrom_141 ?_
                    have hz2 : ∀ q : Int32, q = G1 (sB j2) 9 → narrow (tyX4 9) (.int q) = .int q ∧ fits (tyX4 9) (.int q) = true := fun q hq => by rw [e3] at hq; rcases hy with h | h <;> rw [hq, h] <;> exact ⟨rfl, rfl⟩
                    refine kput X hI hP hS (oS (by first | assumption | omega)) g_X4_65 (fun _ => rfl) rfl (fun _ => Nat.le_of_ble_eq_true rfl) (hz2 _ (by simp [gs, zs])).1 (hz2 _ (by simp [gs, zs])).2 dX4_copyFrom_144 (fun H locs hP hS => ?_)
                    exact hret _ _ _ _ _ (by
                        have ei : i = k := (by omega)
                        rw [ei] at iv_4
                        refine ⟨fun q hq => ?_, fun c hc => ?_, fun r hr => ?_, fun q hq => ?_, fun f h1 h2 => ?_⟩
                        · have zz : q ≠ sB j := (by omega)
                          rw [← iv_1 q hq]; funext f; simp [gs, zz]
                        · exact CE_k (iv_2 c hc) ⟨by have zz : cB j c ≠ sB j := (by unfold cB sB; omega)
                                                     funext f; simp [gs, zz], by have zz : cV j c ≠ sB j := (by unfold cV sB; omega)
                                                                                 funext f; simp [gs, zz], by have zz : cM j c ≠ sB j := (by unfold cM sB; omega)
                                                                                                             funext f; simp [gs, zz]⟩
                        · exact RE_k (iv_3 r hr) (by have zz : rN j r ≠ sB j := (by unfold rN sB; omega)
                                                     funext f; simp [gs, zz]) (by have zz : rW j r ≠ sB j := (by unfold rW sB; omega)
                                                                                  funext f; simp [gs, zz])
                        · exact ME_k (iv_4 q hq) (by have zz : mC j q ≠ sB j := (by unfold mC sB; omega)
                                                     funext f; simp [gs, zz])
                        · rw [← e3]; rcases (show f = 3 ∨ f = 4 ∨ f = 5 ∨ f = 6 ∨ f = 7 ∨ f = 8 ∨ f = 9 by omega) with h | h | h | h | h | h | h <;> subst h <;> simp [gs, zs]) hP hS dX4_copyFrom_147
                  · skip
                    refine lv_aload_n hx hb dX4_copyFrom_70 rfl (lv_at hl 0 rfl) ?_
                    refine kget X hP (oS (by first | assumption | omega)) g_X4_25 rfl dX4_copyFrom_71 ?_
                    refine lv_iload_n hx hb dX4_copyFrom_74 rfl (lv_at hl 2 rfl) ?_
                    refine kaald X hP (qM hj) (by first | assumption | omega) rfl dX4_copyFrom_75 ?_
                    refine lv_aload_n hx hb dX4_copyFrom_76 rfl (lv_at hl 1 rfl) ?_
                    refine kget X hP (oS (by first | assumption | omega)) g_X4_25 rfl dX4_copyFrom_77 ?_
                    refine lv_iload_n hx hb dX4_copyFrom_80 rfl (lv_at hl 2 rfl) ?_
                    refine kaald X hP (qM hj2) (by first | assumption | omega) rfl dX4_copyFrom_81 ?_
                    refine kcVv X hP hS (c_X1_copyFrom l hI hj (by omega) hj2 (by omega)) (oM hj (by omega)) v_X4_53 ⟨Nat.le_of_ble_eq_true rfl, Nat.le_of_ble_eq_true rfl, rfl, rfl⟩ rfl rfl (Nat.le_of_ble_eq_true rfl) hl.1 ⟨Nat.zero_le _, Nat.zero_le _⟩ dX4_copyFrom_82 (fun G_82 H locs hR hP hS => ?_)
                    have h_82 := hR
                    first
                      | refine kinc (q := 2) hx hb dX4_copyFrom_85 hl rfl (by decide) (kp_3_2 rfl) (fun ls hl => ?_)
                      | refine kincG (q := 2) hx hb dX4_copyFrom_85 hl rfl (by decide) (kp_3_2 rfl) (fun ls hl => ?_)
                    refine lv_goto (tgt := 62) hx hb dX4_copyFrom_88 (by decide) ?_
                    exact ih_62 _ _ _ _ _ (by omega) (by omega) (fun q hq => by rw [h_82.1 q (by unfold mC; unfold sB at hq; omega)]; exact iv_1 q hq) (fun c hc => CE_k (iv_2 c hc) ⟨h_82.1 _ (by unfold cB mC; omega), h_82.1 _ (by unfold cV mC; omega), h_82.1 _ (by unfold cM mC; omega)⟩) (fun r hr => RE_k (iv_3 r hr) (h_82.1 _ (by unfold rN mC; omega)) (h_82.1 _ (by unfold rW mC; omega))) (fun q hq => by
                            rcases Nat.lt_or_ge q i with z | z
                            · exact ME_k (iv_4 q z) (h_82.1 _ (by unfold mC; omega))
                            · have e : q = i := (by omega)
                              subst e
                              have w1 : G1 (mC j2 q) = G (mC j2 q) := iv_1 _ (by unfold mC sB; omega)
                              have hh := h_82.2
                              rw [w1] at hh
                              exact hh) hP hS (lv_sub hl [0,1,2] rfl)
              exact lp_62 _ 0 G1 _ _ _ (Nat.lt_succ_self _) (Nat.zero_le _) (iv_1) (iv_2) (fun c hc => iv_3 c (by omega)) (fun c h => absurd h (by omega)) hP hS (lv_sub hl [0,1,2] rfl)
            · skip
              refine lv_aload_n hx hb dX4_copyFrom_39 rfl (lv_at hl 0 rfl) ?_
              refine kget X hP (oS (by first | assumption | omega)) g_X4_19 rfl dX4_copyFrom_40 ?_
              refine lv_iload_n hx hb dX4_copyFrom_43 rfl (lv_at hl 2 rfl) ?_
              refine kaald X hP (qR hj) (by first | assumption | omega) rfl dX4_copyFrom_44 ?_
              refine lv_aload_n hx hb dX4_copyFrom_45 rfl (lv_at hl 1 rfl) ?_
              refine kget X hP (oS (by first | assumption | omega)) g_X4_19 rfl dX4_copyFrom_46 ?_
              refine lv_iload_n hx hb dX4_copyFrom_49 rfl (lv_at hl 2 rfl) ?_
              refine kaald X hP (qR hj2) (by first | assumption | omega) rfl dX4_copyFrom_50 ?_
              refine kcVv X hP hS (c_X3_copyFrom l hI hj (by omega) hj2 (by omega) (by rw [show G1 (rN j2 i) = G (rN j2 i) from iv_1 _ (by unfold rN sB; omega)]; exact hz i (by omega))) (oR hj (by omega)) v_X4_47 ⟨Nat.le_of_ble_eq_true rfl, Nat.le_of_ble_eq_true rfl, rfl, rfl⟩ rfl rfl (Nat.le_of_ble_eq_true rfl) hl.1 ⟨Nat.zero_le _, Nat.zero_le _⟩ dX4_copyFrom_51 (fun G_51 H locs hR hP hS => ?_)
              have h_51 := hR
              first
                | refine kinc (q := 2) hx hb dX4_copyFrom_54 hl rfl (by decide) (kp_3_2 rfl) (fun ls hl => ?_)
                | refine kincG (q := 2) hx hb dX4_copyFrom_54 hl rfl (by decide) (kp_3_2 rfl) (fun ls hl => ?_)
              refine lv_goto (tgt := 31) hx hb dX4_copyFrom_57 (by decide) ?_
              exact ih_31 _ _ _ _ _ (by omega) (by omega) (fun q hq => by rw [h_51.1 q (by unfold rN; unfold sB at hq; omega) (by unfold rW; unfold sB at hq; omega)]; exact iv_1 q hq) (fun c hc => CE_k (iv_2 c hc) ⟨h_51.1 _ (by unfold cB rN; omega) (by unfold cB rW; omega), h_51.1 _ (by unfold cV rN; omega) (by unfold cV rW; omega), h_51.1 _ (by unfold cM rN; omega) (by unfold cM rW; omega)⟩) (fun r hr => by
                      rcases Nat.lt_or_ge r i with q | q
                      · exact RE_k (iv_3 r q) (h_51.1 _ (by unfold rN; omega) (by unfold rN rW; omega)) (h_51.1 _ (by unfold rW rN; omega) (by unfold rW; omega))
                      · have e : r = i := (by omega)
                        subst e
                        have w1 : G1 (rN j2 r) = G (rN j2 r) := iv_1 _ (by unfold rN sB; omega)
                        have w2 : G1 (rW j2 r) = G (rW j2 r) := iv_1 _ (by unfold rW sB; omega)
                        have hh := h_51.2
                        rw [w1, w2] at hh
                        exact hh) hP hS (lv_sub hl [0,1,2] rfl)
        exact lp_31 _ 0 G1 _ _ _ (Nat.lt_succ_self _) (Nat.zero_le _) (iv_1) (fun c hc => iv_2 c (by omega)) (fun c h => absurd h (by omega)) hP hS (lv_sub hl [0,1,2] rfl)
      · skip
        refine lv_aload_n hx hb dX4_copyFrom_8 rfl (lv_at hl 0 rfl) ?_
        refine kget X hP (oS (by first | assumption | omega)) g_X4_11 rfl dX4_copyFrom_9 ?_
        refine lv_iload_n hx hb dX4_copyFrom_12 rfl (lv_at hl 2 rfl) ?_
        refine kaald X hP (qC hj) (by first | assumption | omega) rfl dX4_copyFrom_13 ?_
        refine lv_aload_n hx hb dX4_copyFrom_14 rfl (lv_at hl 1 rfl) ?_
        refine kget X hP (oS (by first | assumption | omega)) g_X4_11 rfl dX4_copyFrom_15 ?_
        refine lv_iload_n hx hb dX4_copyFrom_18 rfl (lv_at hl 2 rfl) ?_
        refine kaald X hP (qC hj2) (by first | assumption | omega) rfl dX4_copyFrom_19 ?_
        refine kcVv X hP hS (c_X0_copyFrom l hI hj (by omega) hj2 (by omega)) (oC hj (by omega)) v_X4_40 ⟨Nat.le_of_ble_eq_true rfl, Nat.le_of_ble_eq_true rfl, rfl, rfl⟩ rfl rfl (Nat.le_of_ble_eq_true rfl) hl.1 ⟨Nat.zero_le _, Nat.zero_le _⟩ dX4_copyFrom_20 (fun G_20 H locs hR hP hS => ?_)
        have h_20 := hR
        first
          | refine kinc (q := 2) hx hb dX4_copyFrom_23 hl rfl (by decide) (kp_3_2 rfl) (fun ls hl => ?_)
          | refine kincG (q := 2) hx hb dX4_copyFrom_23 hl rfl (by decide) (kp_3_2 rfl) (fun ls hl => ?_)
        refine lv_goto (tgt := 2) hx hb dX4_copyFrom_26 (by decide) ?_
        exact ih_2 _ _ _ _ _ (by omega) (by omega) (fun q hq => by rw [h_20.1 q (by unfold cB; unfold sB at hq; omega) (by unfold cV; unfold sB at hq; omega) (by unfold cM; unfold sB at hq; omega)]; exact iv_1 q hq) (fun c hc => by
                rcases Nat.lt_or_ge c i with q | q
                · exact CE_k (iv_2 c q) ⟨h_20.1 _ (by unfold cB; omega) (by unfold cB cV; omega) (by unfold cB cM; omega), h_20.1 _ (by unfold cV cB; omega) (by unfold cV; omega) (by unfold cV cM; omega), h_20.1 _ (by unfold cM cB; omega) (by unfold cM cV; omega) (by unfold cM; omega)⟩
                · have e : c = i := (by omega)
                  subst e
                  have w1 : G1 (cV j2 c) = G (cV j2 c) := iv_1 _ (by unfold cV sB; omega)
                  have w2 : G1 (cM j2 c) = G (cM j2 c) := iv_1 _ (by unfold cM sB; omega)
                  have w3 : G1 (cB j2 c) = G (cB j2 c) := iv_1 _ (by unfold cB sB; omega)
                  have hh := h_20.2
                  rw [w1, w2, w3] at hh
                  exact hh) hP hS (lv_sub hl [0,1,2] rfl)
  exact lp_2 _ 0 G _ _ _ (Nat.lt_succ_self _) (Nat.zero_le _) (fun _ _ => rfl) (fun c h => absurd h (by omega)) hP hS (lv_sub hl [0,1,2] rfl)
