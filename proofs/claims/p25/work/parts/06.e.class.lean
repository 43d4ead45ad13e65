
/-- a commit's row is noted -/
def NCR (G G' : Nat → Nat → Int32) (j k r mm : Nat) : Prop := (∀ q, q ≠ mC j k → q ≠ sB j → G' q = G q) ∧ (∀ f, f ≠ 7 → G' (sB j) f = G (sB j) f) ∧ G' (sB j) 7 = nI (k + 1) ∧ G' (mC j k) 0 = nI r ∧ G' (mC j k) 1 = G (rN j r) 2 ∧ G' (mC j k) 2 = nI (mm + 1) ∧ G' (mC j k) 3 = G (rN j r) 5 ∧ G' (mC j k) 4 = G (rN j r) 4 ∧ G' (mC j k) 5 = nI (cn (skN G j r) k)
/-- the writes are pushed -/
def PWR (G G' : Nat → Nat → Int32) (j r : Nat) (P : Nat → Nat) : Prop := (∀ c, c < 12 → (hw (G (rN j r) 5) c → PU G G' j c (P c) (G (rW j r) c) (G (sB j) 3)) ∧ (¬ hw (G (rN j r) 5) c → CS G G' j c)) ∧ ∀ k, (∀ c, c < 12 → k ≠ cB j c ∧ k ≠ cV j c ∧ k ≠ cM j c) → G' k = G k
def LNR (G G' : Nat → Nat → Int32) (j k r mm : Nat) (P : Nat → Nat) : Prop := if G (rN j r) 5 = 0 then G' = G else ∃ Ga, NCR G Ga j k r mm ∧ PWR (gs Ga (sB j) 3 (nI (mm + 1))) G' j r P
/-- the places of the cells behind the pushes -/
def ppF (G : Nat → Nat → Int32) (j r : Nat) (P : Nat → Nat) : Nat → Nat := fun c => if hw (G (rN j r) 5) c then P c + 1 else P c
theorem hw_0 {c : Nat} (h : c < 32) : ¬ hw 0 c := by
  have : ∀ c, c < 32 → ¬ hw 0 c := by decide +kernel
  exact this c h
theorem LNR_k {G G' : Nat → Nat → Int32} {j k r mm : Nat} {P : Nat → Nat} (hk4 : k < 40) (hr : r < 40) (hp : ∀ c, c < 12 → G (cB j c) 2 = nI (P c)) (h : LNR G G' j k r mm P) : (∀ f, f ≠ 3 → f ≠ 7 → G' (sB j) f = G (sB j) f) ∧ (∀ c, c < 12 → G' (cB j c) 2 = nI (ppF G j r P c)) ∧ G' (rN j r) = G (rN j r) := by
  unfold LNR at h
  by_cases h0 : G (rN j r) 5 = 0
  · rw [if_pos h0] at h
    subst h
    refine ⟨fun _ _ _ => rfl, fun c hc => ?_, rfl⟩
    unfold ppF
    rw [h0, if_neg (hw_0 (by omega))]
    exact hp c hc
  · rw [if_neg h0] at h
    obtain ⟨Ga, h1, h2⟩ := h
    have er : Ga (rN j r) = G (rN j r) := h1.1 _ (by unfold rN mC; omega) (by unfold rN sB; omega)
    have er2 : gs Ga (sB j) 3 (nI (mm + 1)) (rN j r) = G (rN j r) := by rw [gs_other (by unfold rN sB; omega), er]
    refine ⟨fun f f3 f7 => ?_, fun c hc => ?_, ?_⟩
    · rw [h2.2 (sB j) (fun c hc => ⟨by unfold sB cB; omega, by unfold sB cV; omega, by unfold sB cM; omega⟩), gs_row f3]
      exact h1.2.1 f f7
    · obtain ⟨a, b⟩ := h2.1 c hc
      rw [er2] at a b
      unfold ppF
      by_cases q : hw (G (rN j r) 5) c
      · rw [if_pos q]; exact (a q).1
      · rw [if_neg q, (b q).1, gs_other (by unfold cB sB; omega), h1.1 _ (by unfold cB mC; omega) (by unfold cB sB; omega)]
        exact hp c hc
    · rw [h2.2 (rN j r) (fun c hc => ⟨by unfold rN cB; omega, by unfold rN cV; omega, by unfold rN cM; omega⟩), er2]
/-- the dues are told, where they change -/
def TDR (G G' : Nat → Nat → Int32) (j n : Nat) (P : Nat → Nat) (dc : Int32) : Prop := (∀ k, k ≠ sD j → G' k = G k) ∧ (if dc = 0 then G' = G else ∀ t, t < n → G' (sD j) t = dueF G j n P t)
def TKR (G G' : Nat → Nat → Int32) (j n : Nat) (v : Int32) : Prop := v = fl (evN G j) n ∧ (∀ k, (∀ r, r < n → k ≠ rN j r) → G' k = G k) ∧ ∀ r, r < n → G' (rN j r) = tdR (G (rN j r)) (G (sD j) r)
def STR (G G' : Nat → Nat → Int32) (j n : Nat) (v : Int32) : Prop := v = fl (teN G j) n ∧ (∀ k, (∀ r, r < n → k ≠ rN j r) → G' k = G k) ∧ ∀ r, r < n → G' (rN j r) = stR (G (rN j r))
def RUR (G G' : Nat → Nat → Int32) (j n : Nat) (P : Nat → Nat) (v1 : Int32) : Prop := if v1 = 0 then G' = G else ∃ v, ruR G G' j n P v
/-- one tick -/
def TKS (G G' : Nat → Nat → Int32) (j n : Nat) (P : Nat → Nat) (dc dc' : Int32) : Prop := ∃ G1 G2 G3 G4 v1 v2, TDR G G1 j n P dc ∧ TKR G1 G2 j n v1 ∧ STR G2 G3 j n v2 ∧ RUR G3 G4 j n P v1 ∧ G' = gs G4 (sB j) 4 (G4 (sB j) 4 + nI 1) ∧ dc' = (if v1 = 0 ∧ v2 = 0 then nI 0 else nI 1)
def PLS (G : Nat → Nat → Int32) (j n : Nat) (P : Nat → Nat) : Prop := G (sB j) 6 = nI n ∧ ∀ c, c < 12 → G (cB j c) 2 = nI (P c) ∧ 1 ≤ P c ∧ P c ≤ 10
theorem RUR_6 {G G' : Nat → Nat → Int32} {j n : Nat} {P : Nat → Nat} {v1 : Int32} (h : RUR G G' j n P v1) : G' (sB j) 6 = G (sB j) 6 := by
  unfold RUR at h
  split at h
  · rw [h]
  · obtain ⟨v, h⟩ := h
    exact h.2.2.1 6 (by omega)
set_option maxHeartbeats 4000000 in
set_option maxRecDepth 100000 in
theorem c_X4_land (l : Launch) {D : va_G} {τ : Nat → ClassId} {ad : Nat → Nat} (hI : kInj ad) {G : Nat → Nat → Int32} {j n k r mm : Nat} {P : Nat → Nat} (hj : j < 7) (hn : G (sB j) 6 = nI n) (hn4 : n ≤ 40) (hr : r < n) (hk : G (sB j) 7 = nI k) (hk4 : k < 40) (hm : G (sB j) 3 = nI mm) (hp : ∀ c, c < 12 → G (cB j c) 2 = nI (P c) ∧ 1 ≤ P c ∧ P c ≤ 9) : kMv l yX4_land cX4_land 3 { frames := 3, cells := 0, slots := 0, locals := 84 } D τ ad [.ref (ad (sB j)), .int (nI r)] G (fun G' => ∃ G1 u, LNR G G1 j k r mm P ∧ ruR (gs G1 (rN j r) 1 (nI 1)) G' j n (ppF G j r P) u) := by
  refine kMetV (own := RX4) (by decide) rfl (Nat.le_of_ble_eq_true rfl) ?_
  intro p9 e9 s9 m9 args9 below9 meth9 c9 Q9 X hx hb hP hS hret ls hl
  have hPs := hP
  have hl : lv_has ls 3 [(0, .ref (ad (sB j))), (1, .int (nI r))] := hl
  refine lv_aload_n hx hb dX4_land_0 rfl (lv_at hl 0 rfl) ?_
  refine kget X hP (oS hj) g_X4_19 rfl dX4_land_1 ?_
  refine lv_iload_n hx hb dX4_land_4 rfl (lv_at hl 1 rfl) ?_
  refine kaald X hP (qR hj) (by omega) rfl dX4_land_5 ?_
  refine kast hx hb dX4_land_6 rfl hl (by decide) (kp_2_2 rfl) (fun ls hl => ?_)
  refine lv_aload_n hx hb dX4_land_7 rfl (lv_at hl 2 rfl) ?_
  refine kget X hP (oR (r := r) hj (by omega)) g_X4_158 rfl dX4_land_8 ?_
  first
    | refine kif_eq (tgt := 34) hx hb dX4_land_11 (by decide) (fun c_11 => ?_) (fun c_11 => ?_)
    | refine lv_if_eq (tgt := 34) hx hb dX4_land_11 (by decide) (fun c_11 => ?_) (fun c_11 => ?_)
  · skip
    obtain ⟨G_31, hG31, h_31⟩ : ∃ G_31, G = G_31 ∧ LNR G G_31 j k r mm P := ⟨G, rfl, by rw [LNR, if_pos c_11]⟩
    rw [hG31] at hP
    have hq := LNR_k hk4 (by omega) (fun c hc => (hp c hc).1) h_31
    refine lv_aload_n hx hb dX4_land_34 rfl (lv_at hl 2 rfl) ?_
    refine lv_iconst (v := nI 1) hx hb dX4_land_35 (by decide) ?_
    refine kput X hI hP hS (oR (r := r) hj (by omega)) g_X4_73 (fun _ => rfl) rfl (fun _ => Nat.le_of_ble_eq_true rfl) rfl rfl dX4_land_36 (fun H locs hP hS => ?_)
    refine lv_aload_n hx hb dX4_land_39 rfl (lv_at hl 0 rfl) ?_
    refine kcV X hP hS (c_X4_removeUnseen l hI (j := j) (n := n) (P := ppF G j r P) hj (by rw [gs_other (by unfold sB rN; omega), hq.1 6 (by omega) (by omega)]; exact hn) hn4 (fun c hc => by rw [gs_other (by unfold cB rN; omega)]; refine ⟨hq.2.1 c hc, ?_, ?_⟩ <;> (have := hp c hc; unfold ppF; split <;> omega))) (oS hj) v_X4_130 ⟨Nat.le_of_ble_eq_true rfl, Nat.le_of_ble_eq_true rfl, rfl, rfl⟩ rfl rfl (Nat.le_of_ble_eq_true rfl) hl.1 ⟨Nat.zero_le _, Nat.zero_le _⟩ dX4_land_40 (fun r_40 G_40 H locs hR hP hS => ?_)
    have h_40 := hR
    refine lv_pop hx hb dX4_land_43 rfl ?_
    exact hret _ _ _ _ _ (⟨_, r_40, h_31, h_40⟩) hP hS dX4_land_44
  · skip
    refine lv_aload_n hx hb dX4_land_14 rfl (lv_at hl 0 rfl) ?_
    refine lv_iload_n hx hb dX4_land_15 rfl (lv_at hl 1 rfl) ?_
    refine kcVv X hP hS (c_X4_noteCommit l hI (n := n) (k := k) (r := r) (mm := mm) hj hk hk4 (by omega) hm) (oS hj) v_X4_161 ⟨Nat.le_of_ble_eq_true rfl, Nat.le_of_ble_eq_true rfl, rfl, rfl⟩ rfl rfl (Nat.le_of_ble_eq_true rfl) hl.1 ⟨Nat.zero_le _, Nat.zero_le _⟩ dX4_land_16 (fun G_16 H locs hR hP hS => ?_)
    have h_16 := hR
    refine lv_aload_n hx hb dX4_land_19 rfl (lv_at hl 0 rfl) ?_
    refine lv_dup hx hb dX4_land_20 rfl ?_
    refine kget X hP (oS hj) g_X4_56 (congrArg (fun z => some (Value.int z)) ((h_16.2.1 3 (by omega)).trans hm)) dX4_land_21 ?_
    refine lv_iconst (v := nI 1) hx hb dX4_land_24 (by decide) ?_
    first
      | refine kadd hx hb dX4_land_25 (by with_reducible rfl) (by with_reducible rfl) ?_
      | refine lv_iadd hx hb dX4_land_25 ?_
    refine kput X hI hP hS (oS hj) g_X4_56 (fun _ => rfl) rfl (fun _ => Nat.le_of_ble_eq_true rfl) rfl rfl dX4_land_26 (fun H locs hP hS => ?_)
    refine lv_aload_n hx hb dX4_land_29 rfl (lv_at hl 0 rfl) ?_
    refine lv_aload_n hx hb dX4_land_30 rfl (lv_at hl 2 rfl) ?_
    refine kcVv X hP hS (c_X4_pushWrites l hI (r := r) (P := P) hj (by omega) (fun c hc => by rw [gs_other (by unfold cB sB; omega), h_16.1 _ (by unfold cB mC; omega) (by unfold cB sB; omega)]; exact ⟨(hp c hc).1, (hp c hc).2.2⟩)) (oS hj) v_X4_165 ⟨Nat.le_of_ble_eq_true rfl, Nat.le_of_ble_eq_true rfl, rfl, rfl⟩ rfl rfl (Nat.le_of_ble_eq_true rfl) hl.1 ⟨Nat.zero_le _, Nat.zero_le _⟩ dX4_land_31 (fun G_31 H locs hR hP hS => ?_)
    have h_31 : LNR G G_31 j k r mm P := by rw [LNR, if_neg c_11]; exact ⟨_, h_16, hR⟩
    have hq := LNR_k hk4 (by omega) (fun c hc => (hp c hc).1) h_31
    refine lv_aload_n hx hb dX4_land_34 rfl (lv_at hl 2 rfl) ?_
    refine lv_iconst (v := nI 1) hx hb dX4_land_35 (by decide) ?_
    refine kput X hI hP hS (oR (r := r) hj (by omega)) g_X4_73 (fun _ => rfl) rfl (fun _ => Nat.le_of_ble_eq_true rfl) rfl rfl dX4_land_36 (fun H locs hP hS => ?_)
    refine lv_aload_n hx hb dX4_land_39 rfl (lv_at hl 0 rfl) ?_
    refine kcV X hP hS (c_X4_removeUnseen l hI (j := j) (n := n) (P := ppF G j r P) hj (by rw [gs_other (by unfold sB rN; omega), hq.1 6 (by omega) (by omega)]; exact hn) hn4 (fun c hc => by rw [gs_other (by unfold cB rN; omega)]; refine ⟨hq.2.1 c hc, ?_, ?_⟩ <;> (have := hp c hc; unfold ppF; split <;> omega))) (oS hj) v_X4_130 ⟨Nat.le_of_ble_eq_true rfl, Nat.le_of_ble_eq_true rfl, rfl, rfl⟩ rfl rfl (Nat.le_of_ble_eq_true rfl) hl.1 ⟨Nat.zero_le _, Nat.zero_le _⟩ dX4_land_40 (fun r_40 G_40 H locs hR hP hS => ?_)
    have h_40 := hR
    refine lv_pop hx hb dX4_land_43 rfl ?_
    exact hret _ _ _ _ _ (⟨_, r_40, h_31, h_40⟩) hP hS dX4_land_44

set_option maxHeartbeats 4000000 in
set_option maxRecDepth 100000 in
theorem c_X4_letTicksPass (l : Launch) {D : va_G} {τ : Nat → ClassId} {ad : Nat → Nat} (hI : kInj ad) {G : Nat → Nat → Int32} {j n K : Nat} {w : Int32} (hj : j < 7) (hn4 : n ≤ 40) (hK : K ≤ 1000) (Z Y : Nat → Int32 → (Nat → Nat → Int32) → Prop) (hw : ∀ i dc G1, Z i dc G1 → ∃ P, PLS G1 j n P) (hs : ∀ i dc dc' G1 G2 P, i < K → Z i dc G1 → PLS G1 j n P → TKS G1 G2 j n P dc dc' → Y (i + 1) dc' G2) (hz : ∀ i dc G1, Y i dc G1 → (∀ r, r < n → w = nI r → G1 (rN j r) 1 = 0) → Z i dc G1) (h0 : Z 0 (nI 1) G) : kMv l yX4_letTicksPass cX4_letTicksPass 7 { frames := 5, cells := 0, slots := 0, locals := 114 } D τ ad [.ref (ad (sB j)), .int (nI K), .int w] G (fun G' => (∃ dc, Z K dc G') ∨ ∃ i dc r, i ≤ K ∧ Y i dc G' ∧ r < n ∧ w = nI r ∧ ¬ G' (rN j r) 1 = 0) := by
  refine kMetV (own := RX4) (by decide) rfl (Nat.le_of_ble_eq_true rfl) ?_
  intro p9 e9 s9 m9 args9 below9 meth9 c9 Q9 X hx hb hP hS hret ls hl
  have hPs := hP
  have hl : lv_has ls 7 [(0, .ref (ad (sB j))), (1, .int (nI K)), (2, .int w)] := hl
  refine lv_iconst (v := nI 1) hx hb dX4_letTicksPass_0 (by decide) ?_
  refine kist hx hb dX4_letTicksPass_1 rfl hl (by decide) (kp_3_3 rfl) (fun ls hl => ?_)
  refine lv_iconst (v := nI 0) hx hb dX4_letTicksPass_2 (by decide) ?_
  refine kistW hx hb dX4_letTicksPass_3 hl (by decide) (kp_4_4 rfl) (fun ls hl => ?_)
  have lp_5 : ∀ (d : Nat) (i : Nat) (dc : Int32) (G1 : Nat → Nat → Int32) (H : Heap) (locs : List Loc) (ls : Array Slot), (K - i) < d → (i ≤ K) → (Z i dc G1) → va_P D vwCl (kW τ ad G1) H → va_S (kAd ad) s9.heap H locs → lv_has ls 7 [(0, .ref (ad (sB j))), (1, .int (nI K)), (2, .int w), (3, .int dc), (4, .int (nI i))] → W p9 l e9 { frames := 5, cells := 0, slots := 0, locals := 114 } s9 m9 args9 below9 meth9 c9 H locs 0 0 Q9 (F0 m9 5 ls []) := by
    intro d
    induction d with
    | zero => exact fun _ _ _ _ _ _ hd => absurd hd (Nat.not_lt_zero _)
    | succ d ih_5 =>
      intro i dc G1 H locs ls hd iv_0 iv_1 hP hS hl
      obtain ⟨P, hPL⟩ := hw i dc G1 iv_1
      refine lv_iload hx hb dX4_letTicksPass_5 (lv_at hl 4 rfl) ?_
      refine lv_iload_n hx hb dX4_letTicksPass_7 rfl (lv_at hl 1 rfl) ?_
      first
        | refine kic_ge (tgt := 94) hx hb dX4_letTicksPass_8 (by decide) (by with_reducible rfl) (by with_reducible rfl) (by omega) (by omega) (fun c_8 => ?_) (fun c_8 => ?_)
        | refine lv_icmp_ge (tgt := 94) hx hb dX4_letTicksPass_8 (by decide) (fun c_8 => ?_) (fun c_8 => ?_)
      · skip
        exact hret _ _ _ _ _ (Or.inl ⟨dc, by rw [show K = i by omega]; exact iv_1⟩) hP hS dX4_letTicksPass_94
      · skip
        refine lv_iload_n hx hb dX4_letTicksPass_11 rfl (lv_at hl 3 rfl) ?_
        first
          | refine kif_eq (tgt := 19) hx hb dX4_letTicksPass_12 (by decide) (fun c_12 => ?_) (fun c_12 => ?_)
          | refine lv_if_eq (tgt := 19) hx hb dX4_letTicksPass_12 (by decide) (fun c_12 => ?_) (fun c_12 => ?_)
        · skip
          obtain ⟨G_16, hG16, h_16⟩ : ∃ G_16, G1 = G_16 ∧ TDR G1 G_16 j n P dc := ⟨G1, rfl, fun _ _ => rfl, by rw [if_pos c_12]⟩
          rw [hG16] at hP
          have hn2 : G_16 (sB j) 6 = nI n := by rw [h_16.1 _ (by unfold sB sD; omega)]; exact hPL.1
          refine lv_aload_n hx hb dX4_letTicksPass_19 rfl (lv_at hl 0 rfl) ?_
          refine kcV X hP hS (c_X4_takeDues l hI (n := n) hj hn2 hn4) (oS hj) v_X4_124 ⟨Nat.le_of_ble_eq_true rfl, Nat.le_of_ble_eq_true rfl, rfl, rfl⟩ rfl rfl (Nat.le_of_ble_eq_true rfl) hl.1 ⟨Nat.zero_le _, Nat.zero_le _⟩ dX4_letTicksPass_20 (fun r_20 G_20 H locs hR hP hS => ?_)
          have h_20 : TKR G_16 G_20 j n r_20 := hR
          refine kistW hx hb dX4_letTicksPass_23 hl (by decide) (kp_5_5 rfl) (fun ls hl => ?_)
          have hn3 : G_20 (sB j) 6 = nI n := by rw [h_20.2.1 _ (fun r hr => by unfold sB rN; omega)]; exact hn2
          refine lv_aload_n hx hb dX4_letTicksPass_25 rfl (lv_at hl 0 rfl) ?_
          refine kcV X hP hS (c_X4_shortenTerms l hI (n := n) hj hn3 hn4) (oS hj) v_X4_127 ⟨Nat.le_of_ble_eq_true rfl, Nat.le_of_ble_eq_true rfl, rfl, rfl⟩ rfl rfl (Nat.le_of_ble_eq_true rfl) hl.1 ⟨Nat.zero_le _, Nat.zero_le _⟩ dX4_letTicksPass_26 (fun r_26 G_26 H locs hR hP hS => ?_)
          have h_26 : STR G_20 G_26 j n r_26 := hR
          refine kistW hx hb dX4_letTicksPass_29 hl (by decide) (kp_6_6 rfl) (fun ls hl => ?_)
          have hn5 : G_26 (sB j) 6 = nI n := by rw [h_26.2.1 _ (fun r hr => by unfold sB rN; omega)]; exact hn3
          have hp3 : ∀ c, c < 12 → G_26 (cB j c) 2 = nI (P c) ∧ 1 ≤ P c ∧ P c ≤ 10 := fun c hc => by rw [h_26.2.1 _ (fun r hr => by unfold cB rN; omega), h_20.2.1 _ (fun r hr => by unfold cB rN; omega), h_16.1 _ (by unfold cB sD; omega)]; exact hPL.2 c hc
          refine lv_iload hx hb dX4_letTicksPass_31 (lv_at hl 5 rfl) ?_
          first
            | refine kif_eq (tgt := 41) hx hb dX4_letTicksPass_33 (by decide) (fun c_33 => ?_) (fun c_33 => ?_)
            | refine lv_if_eq (tgt := 41) hx hb dX4_letTicksPass_33 (by decide) (fun c_33 => ?_) (fun c_33 => ?_)
          · skip
            obtain ⟨G_37, hG37, h_37⟩ : ∃ G_37, G_26 = G_37 ∧ RUR G_26 G_37 j n P r_20 := ⟨G_26, rfl, by rw [RUR, if_pos c_33]⟩
            rw [hG37] at hP
            refine lv_iload hx hb dX4_letTicksPass_41 (lv_at hl 5 rfl) ?_
            first
              | refine kif_ne (tgt := 51) hx hb dX4_letTicksPass_43 (by decide) (fun c_43 => ?_) (fun c_43 => ?_)
              | refine lv_if_ne (tgt := 51) hx hb dX4_letTicksPass_43 (by decide) (fun c_43 => ?_) (fun c_43 => ?_)
            · skip
              exact absurd c_33 c_43
            · skip
              refine lv_iload hx hb dX4_letTicksPass_46 (lv_at hl 6 rfl) ?_
              first
                | refine kif_eq (tgt := 55) hx hb dX4_letTicksPass_48 (by decide) (fun c_48 => ?_) (fun c_48 => ?_)
                | refine lv_if_eq (tgt := 55) hx hb dX4_letTicksPass_48 (by decide) (fun c_48 => ?_) (fun c_48 => ?_)
              · skip
                refine lv_iconst (v := nI 0) hx hb dX4_letTicksPass_55 (by decide) ?_
                refine kist hx hb dX4_letTicksPass_56 rfl hl (by decide) (kp_7_3 rfl) (fun ls hl => ?_)
                refine lv_aload_n hx hb dX4_letTicksPass_57 rfl (lv_at hl 0 rfl) ?_
                refine lv_dup hx hb dX4_letTicksPass_58 rfl ?_
                refine kget X hP (oS hj) g_X4_59 rfl dX4_letTicksPass_59 ?_
                refine lv_iconst (v := nI 1) hx hb dX4_letTicksPass_62 (by decide) ?_
                first
                  | refine kadd hx hb dX4_letTicksPass_63 (by with_reducible rfl) (by with_reducible rfl) ?_
                  | refine lv_iadd hx hb dX4_letTicksPass_63 ?_
                refine kput X hI hP hS (oS hj) g_X4_59 (fun _ => rfl) rfl (fun _ => Nat.le_of_ble_eq_true rfl) rfl rfl dX4_letTicksPass_64 (fun H locs hP hS => ?_)
                have hn6 : (gs G_37 (sB j) 4 (G_37 (sB j) 4 + nI 1)) (sB j) 6 = nI n := by rw [gs_row (by omega), RUR_6 h_37]; exact hn5
                refine lv_aload_n hx hb dX4_letTicksPass_67 rfl (lv_at hl 0 rfl) ?_
                refine lv_iload_n hx hb dX4_letTicksPass_68 rfl (lv_at hl 2 rfl) ?_
                refine kcV X hP hS (c_X4_hasReader l hI (j := j) (x := w) hj) (oS hj) v_X4_134 ⟨Nat.le_of_ble_eq_true rfl, Nat.le_of_ble_eq_true rfl, rfl, rfl⟩ rfl rfl (Nat.le_of_ble_eq_true rfl) hl.1 ⟨Nat.zero_le _, Nat.zero_le _⟩ dX4_letTicksPass_69 (fun r_69 G_69 H locs hR hP hS => ?_)
                obtain ⟨rfl, hG_69⟩ := hR
                rw [hG_69] at hP
                clear hG_69
                first
                  | refine kif_eq (tgt := 88) hx hb dX4_letTicksPass_72 (by decide) (fun c_72 => ?_) (fun c_72 => ?_)
                  | refine lv_if_eq (tgt := 88) hx hb dX4_letTicksPass_72 (by decide) (fun c_72 => ?_) (fun c_72 => ?_)
                · skip
                  first
                    | refine kinc (q := 4) hx hb dX4_letTicksPass_88 hl rfl (by decide) (kp_7_4 rfl) (fun ls hl => ?_)
                    | refine kincG (q := 4) hx hb dX4_letTicksPass_88 hl rfl (by decide) (kp_7_4 rfl) (fun ls hl => ?_)
                  refine lv_goto (tgt := 5) hx hb dX4_letTicksPass_91 (by decide) ?_
                  exact ih_5 _ _ _ _ _ _ (by omega) (by omega) (hz (i + 1) _ _ (hs i dc _ G1 _ P (by omega) iv_1 hPL ⟨G_16, G_20, G_26, G_37, r_20, r_26, h_16, h_20, h_26, h_37, rfl, (if_pos ⟨c_33, c_48⟩).symm⟩) (fun r hr e => absurd e (hsR_no hn4 (by rw [hn6] at c_72; exact c_72) r hr))) hP hS (lv_sub hl [0,1,2,3,4] rfl)
                · skip
                  obtain ⟨r, hr, rfl⟩ := hsR_yes hn4 (by rw [hn6] at c_72; exact c_72)
                  refine lv_aload_n hx hb dX4_letTicksPass_75 rfl (lv_at hl 0 rfl) ?_
                  refine kget X hP (oS hj) g_X4_19 rfl dX4_letTicksPass_76 ?_
                  refine lv_iload_n hx hb dX4_letTicksPass_79 rfl (lv_at hl 2 rfl) ?_
                  refine kaald X hP (qR hj) (by omega) rfl dX4_letTicksPass_80 ?_
                  refine kcV X hP hS (c_X3_isOpen l hI (j := j) (r := r) hj (by omega)) (oR (r := r) hj (by omega)) v_X4_83 ⟨Nat.le_of_ble_eq_true rfl, Nat.le_of_ble_eq_true rfl, rfl, rfl⟩ rfl rfl (Nat.le_of_ble_eq_true rfl) hl.1 ⟨Nat.zero_le _, Nat.zero_le _⟩ dX4_letTicksPass_81 (fun r_81 G_81 H locs hR hP hS => ?_)
                  obtain ⟨rfl, hG_81⟩ := hR
                  rw [hG_81] at hP
                  clear hG_81
                  first
                    | refine kif_ne (tgt := 88) hx hb dX4_letTicksPass_84 (by decide) (fun c_84 => ?_) (fun c_84 => ?_)
                    | refine lv_if_ne (tgt := 88) hx hb dX4_letTicksPass_84 (by decide) (fun c_84 => ?_) (fun c_84 => ?_)
                  · skip
                    first
                      | refine kinc (q := 4) hx hb dX4_letTicksPass_88 hl rfl (by decide) (kp_7_4 rfl) (fun ls hl => ?_)
                      | refine kincG (q := 4) hx hb dX4_letTicksPass_88 hl rfl (by decide) (kp_7_4 rfl) (fun ls hl => ?_)
                    refine lv_goto (tgt := 5) hx hb dX4_letTicksPass_91 (by decide) ?_
                    exact ih_5 _ _ _ _ _ _ (by omega) (by omega) (hz (i + 1) _ _ (hs i dc _ G1 _ P (by omega) iv_1 hPL ⟨G_16, G_20, G_26, G_37, r_20, r_26, h_16, h_20, h_26, h_37, rfl, (if_pos ⟨c_33, c_48⟩).symm⟩) (fun t ht e => by rw [show t = r from ((nI_eq (by omega) (by omega)).mp e).symm]; exact c_84)) hP hS (lv_sub hl [0,1,2,3,4] rfl)
                  · skip
                    exact hret _ _ _ _ _ (Or.inr ⟨i + 1, _, r, by omega, hs i dc _ G1 _ P (by omega) iv_1 hPL ⟨G_16, G_20, G_26, G_37, r_20, r_26, h_16, h_20, h_26, h_37, rfl, (if_pos ⟨c_33, c_48⟩).symm⟩, hr, rfl, c_84⟩) hP hS dX4_letTicksPass_87
              · skip
                refine lv_iconst (v := nI 1) hx hb dX4_letTicksPass_51 (by decide) ?_
                refine lv_goto (tgt := 56) hx hb dX4_letTicksPass_52 (by decide) ?_
                refine kist hx hb dX4_letTicksPass_56 rfl hl (by decide) (kp_7_3 rfl) (fun ls hl => ?_)
                refine lv_aload_n hx hb dX4_letTicksPass_57 rfl (lv_at hl 0 rfl) ?_
                refine lv_dup hx hb dX4_letTicksPass_58 rfl ?_
                refine kget X hP (oS hj) g_X4_59 rfl dX4_letTicksPass_59 ?_
                refine lv_iconst (v := nI 1) hx hb dX4_letTicksPass_62 (by decide) ?_
                first
                  | refine kadd hx hb dX4_letTicksPass_63 (by with_reducible rfl) (by with_reducible rfl) ?_
                  | refine lv_iadd hx hb dX4_letTicksPass_63 ?_
                refine kput X hI hP hS (oS hj) g_X4_59 (fun _ => rfl) rfl (fun _ => Nat.le_of_ble_eq_true rfl) rfl rfl dX4_letTicksPass_64 (fun H locs hP hS => ?_)
                have hn6 : (gs G_37 (sB j) 4 (G_37 (sB j) 4 + nI 1)) (sB j) 6 = nI n := by rw [gs_row (by omega), RUR_6 h_37]; exact hn5
                refine lv_aload_n hx hb dX4_letTicksPass_67 rfl (lv_at hl 0 rfl) ?_
                refine lv_iload_n hx hb dX4_letTicksPass_68 rfl (lv_at hl 2 rfl) ?_
                refine kcV X hP hS (c_X4_hasReader l hI (j := j) (x := w) hj) (oS hj) v_X4_134 ⟨Nat.le_of_ble_eq_true rfl, Nat.le_of_ble_eq_true rfl, rfl, rfl⟩ rfl rfl (Nat.le_of_ble_eq_true rfl) hl.1 ⟨Nat.zero_le _, Nat.zero_le _⟩ dX4_letTicksPass_69 (fun r_69 G_69 H locs hR hP hS => ?_)
                obtain ⟨rfl, hG_69⟩ := hR
                rw [hG_69] at hP
                clear hG_69
                first
                  | refine kif_eq (tgt := 88) hx hb dX4_letTicksPass_72 (by decide) (fun c_72 => ?_) (fun c_72 => ?_)
                  | refine lv_if_eq (tgt := 88) hx hb dX4_letTicksPass_72 (by decide) (fun c_72 => ?_) (fun c_72 => ?_)
                · skip
                  first
                    | refine kinc (q := 4) hx hb dX4_letTicksPass_88 hl rfl (by decide) (kp_7_4 rfl) (fun ls hl => ?_)
                    | refine kincG (q := 4) hx hb dX4_letTicksPass_88 hl rfl (by decide) (kp_7_4 rfl) (fun ls hl => ?_)
                  refine lv_goto (tgt := 5) hx hb dX4_letTicksPass_91 (by decide) ?_
                  exact ih_5 _ _ _ _ _ _ (by omega) (by omega) (hz (i + 1) _ _ (hs i dc _ G1 _ P (by omega) iv_1 hPL ⟨G_16, G_20, G_26, G_37, r_20, r_26, h_16, h_20, h_26, h_37, rfl, (if_neg (fun z => c_48 z.2)).symm⟩) (fun r hr e => absurd e (hsR_no hn4 (by rw [hn6] at c_72; exact c_72) r hr))) hP hS (lv_sub hl [0,1,2,3,4] rfl)
                · skip
                  obtain ⟨r, hr, rfl⟩ := hsR_yes hn4 (by rw [hn6] at c_72; exact c_72)
                  refine lv_aload_n hx hb dX4_letTicksPass_75 rfl (lv_at hl 0 rfl) ?_
                  refine kget X hP (oS hj) g_X4_19 rfl dX4_letTicksPass_76 ?_
                  refine lv_iload_n hx hb dX4_letTicksPass_79 rfl (lv_at hl 2 rfl) ?_
                  refine kaald X hP (qR hj) (by omega) rfl dX4_letTicksPass_80 ?_
                  refine kcV X hP hS (c_X3_isOpen l hI (j := j) (r := r) hj (by omega)) (oR (r := r) hj (by omega)) v_X4_83 ⟨Nat.le_of_ble_eq_true rfl, Nat.le_of_ble_eq_true rfl, rfl, rfl⟩ rfl rfl (Nat.le_of_ble_eq_true rfl) hl.1 ⟨Nat.zero_le _, Nat.zero_le _⟩ dX4_letTicksPass_81 (fun r_81 G_81 H locs hR hP hS => ?_)
                  obtain ⟨rfl, hG_81⟩ := hR
                  rw [hG_81] at hP
                  clear hG_81
                  first
                    | refine kif_ne (tgt := 88) hx hb dX4_letTicksPass_84 (by decide) (fun c_84 => ?_) (fun c_84 => ?_)
                    | refine lv_if_ne (tgt := 88) hx hb dX4_letTicksPass_84 (by decide) (fun c_84 => ?_) (fun c_84 => ?_)
                  · skip
                    first
                      | refine kinc (q := 4) hx hb dX4_letTicksPass_88 hl rfl (by decide) (kp_7_4 rfl) (fun ls hl => ?_)
                      | refine kincG (q := 4) hx hb dX4_letTicksPass_88 hl rfl (by decide) (kp_7_4 rfl) (fun ls hl => ?_)
                    refine lv_goto (tgt := 5) hx hb dX4_letTicksPass_91 (by decide) ?_
                    exact ih_5 _ _ _ _ _ _ (by omega) (by omega) (hz (i + 1) _ _ (hs i dc _ G1 _ P (by omega) iv_1 hPL ⟨G_16, G_20, G_26, G_37, r_20, r_26, h_16, h_20, h_26, h_37, rfl, (if_neg (fun z => c_48 z.2)).symm⟩) (fun t ht e => by rw [show t = r from ((nI_eq (by omega) (by omega)).mp e).symm]; exact c_84)) hP hS (lv_sub hl [0,1,2,3,4] rfl)
                  · skip
                    exact hret _ _ _ _ _ (Or.inr ⟨i + 1, _, r, by omega, hs i dc _ G1 _ P (by omega) iv_1 hPL ⟨G_16, G_20, G_26, G_37, r_20, r_26, h_16, h_20, h_26, h_37, rfl, (if_neg (fun z => c_48 z.2)).symm⟩, hr, rfl, c_84⟩) hP hS dX4_letTicksPass_87
          · skip
            refine lv_aload_n hx hb dX4_letTicksPass_36 rfl (lv_at hl 0 rfl) ?_
            refine kcV X hP hS (c_X4_removeUnseen l hI (j := j) (n := n) (P := P) hj hn5 hn4 hp3) (oS hj) v_X4_130 ⟨Nat.le_of_ble_eq_true rfl, Nat.le_of_ble_eq_true rfl, rfl, rfl⟩ rfl rfl (Nat.le_of_ble_eq_true rfl) hl.1 ⟨Nat.zero_le _, Nat.zero_le _⟩ dX4_letTicksPass_37 (fun r_37 G_37 H locs hR hP hS => ?_)
            have h_37 : RUR G_26 G_37 j n P r_20 := by rw [RUR, if_neg c_33]; exact ⟨r_37, hR⟩
            refine lv_pop hx hb dX4_letTicksPass_40 rfl ?_
            refine lv_iload hx hb dX4_letTicksPass_41 (lv_at hl 5 rfl) ?_
            first
              | refine kif_ne (tgt := 51) hx hb dX4_letTicksPass_43 (by decide) (fun c_43 => ?_) (fun c_43 => ?_)
              | refine lv_if_ne (tgt := 51) hx hb dX4_letTicksPass_43 (by decide) (fun c_43 => ?_) (fun c_43 => ?_)
            · skip
              refine lv_iconst (v := nI 1) hx hb dX4_letTicksPass_51 (by decide) ?_
              refine lv_goto (tgt := 56) hx hb dX4_letTicksPass_52 (by decide) ?_
              refine kist hx hb dX4_letTicksPass_56 rfl hl (by decide) (kp_7_3 rfl) (fun ls hl => ?_)
              refine lv_aload_n hx hb dX4_letTicksPass_57 rfl (lv_at hl 0 rfl) ?_
              refine lv_dup hx hb dX4_letTicksPass_58 rfl ?_
              refine kget X hP (oS hj) g_X4_59 rfl dX4_letTicksPass_59 ?_
              refine lv_iconst (v := nI 1) hx hb dX4_letTicksPass_62 (by decide) ?_
              first
                | refine kadd hx hb dX4_letTicksPass_63 (by with_reducible rfl) (by with_reducible rfl) ?_
                | refine lv_iadd hx hb dX4_letTicksPass_63 ?_
              refine kput X hI hP hS (oS hj) g_X4_59 (fun _ => rfl) rfl (fun _ => Nat.le_of_ble_eq_true rfl) rfl rfl dX4_letTicksPass_64 (fun H locs hP hS => ?_)
              have hn6 : (gs G_37 (sB j) 4 (G_37 (sB j) 4 + nI 1)) (sB j) 6 = nI n := by rw [gs_row (by omega), RUR_6 h_37]; exact hn5
              refine lv_aload_n hx hb dX4_letTicksPass_67 rfl (lv_at hl 0 rfl) ?_
              refine lv_iload_n hx hb dX4_letTicksPass_68 rfl (lv_at hl 2 rfl) ?_
              refine kcV X hP hS (c_X4_hasReader l hI (j := j) (x := w) hj) (oS hj) v_X4_134 ⟨Nat.le_of_ble_eq_true rfl, Nat.le_of_ble_eq_true rfl, rfl, rfl⟩ rfl rfl (Nat.le_of_ble_eq_true rfl) hl.1 ⟨Nat.zero_le _, Nat.zero_le _⟩ dX4_letTicksPass_69 (fun r_69 G_69 H locs hR hP hS => ?_)
              obtain ⟨rfl, hG_69⟩ := hR
              rw [hG_69] at hP
              clear hG_69
              first
                | refine kif_eq (tgt := 88) hx hb dX4_letTicksPass_72 (by decide) (fun c_72 => ?_) (fun c_72 => ?_)
                | refine lv_if_eq (tgt := 88) hx hb dX4_letTicksPass_72 (by decide) (fun c_72 => ?_) (fun c_72 => ?_)
              · skip
                first
                  | refine kinc (q := 4) hx hb dX4_letTicksPass_88 hl rfl (by decide) (kp_7_4 rfl) (fun ls hl => ?_)
                  | refine kincG (q := 4) hx hb dX4_letTicksPass_88 hl rfl (by decide) (kp_7_4 rfl) (fun ls hl => ?_)
                refine lv_goto (tgt := 5) hx hb dX4_letTicksPass_91 (by decide) ?_
                exact ih_5 _ _ _ _ _ _ (by omega) (by omega) (hz (i + 1) _ _ (hs i dc _ G1 _ P (by omega) iv_1 hPL ⟨G_16, G_20, G_26, G_37, r_20, r_26, h_16, h_20, h_26, h_37, rfl, (if_neg (fun z => c_33 z.1)).symm⟩) (fun r hr e => absurd e (hsR_no hn4 (by rw [hn6] at c_72; exact c_72) r hr))) hP hS (lv_sub hl [0,1,2,3,4] rfl)
              · skip
                obtain ⟨r, hr, rfl⟩ := hsR_yes hn4 (by rw [hn6] at c_72; exact c_72)
                refine lv_aload_n hx hb dX4_letTicksPass_75 rfl (lv_at hl 0 rfl) ?_
                refine kget X hP (oS hj) g_X4_19 rfl dX4_letTicksPass_76 ?_
                refine lv_iload_n hx hb dX4_letTicksPass_79 rfl (lv_at hl 2 rfl) ?_
                refine kaald X hP (qR hj) (by omega) rfl dX4_letTicksPass_80 ?_
                refine kcV X hP hS (c_X3_isOpen l hI (j := j) (r := r) hj (by omega)) (oR (r := r) hj (by omega)) v_X4_83 ⟨Nat.le_of_ble_eq_true rfl, Nat.le_of_ble_eq_true rfl, rfl, rfl⟩ rfl rfl (Nat.le_of_ble_eq_true rfl) hl.1 ⟨Nat.zero_le _, Nat.zero_le _⟩ dX4_letTicksPass_81 (fun r_81 G_81 H locs hR hP hS => ?_)
                obtain ⟨rfl, hG_81⟩ := hR
                rw [hG_81] at hP
                clear hG_81
                first
                  | refine kif_ne (tgt := 88) hx hb dX4_letTicksPass_84 (by decide) (fun c_84 => ?_) (fun c_84 => ?_)
                  | refine lv_if_ne (tgt := 88) hx hb dX4_letTicksPass_84 (by decide) (fun c_84 => ?_) (fun c_84 => ?_)
                · skip
                  first
                    | refine kinc (q := 4) hx hb dX4_letTicksPass_88 hl rfl (by decide) (kp_7_4 rfl) (fun ls hl => ?_)
                    | refine kincG (q := 4) hx hb dX4_letTicksPass_88 hl rfl (by decide) (kp_7_4 rfl) (fun ls hl => ?_)
                  refine lv_goto (tgt := 5) hx hb dX4_letTicksPass_91 (by decide) ?_
                  exact ih_5 _ _ _ _ _ _ (by omega) (by omega) (hz (i + 1) _ _ (hs i dc _ G1 _ P (by omega) iv_1 hPL ⟨G_16, G_20, G_26, G_37, r_20, r_26, h_16, h_20, h_26, h_37, rfl, (if_neg (fun z => c_33 z.1)).symm⟩) (fun t ht e => by rw [show t = r from ((nI_eq (by omega) (by omega)).mp e).symm]; exact c_84)) hP hS (lv_sub hl [0,1,2,3,4] rfl)
                · skip
                  exact hret _ _ _ _ _ (Or.inr ⟨i + 1, _, r, by omega, hs i dc _ G1 _ P (by omega) iv_1 hPL ⟨G_16, G_20, G_26, G_37, r_20, r_26, h_16, h_20, h_26, h_37, rfl, (if_neg (fun z => c_33 z.1)).symm⟩, hr, rfl, c_84⟩) hP hS dX4_letTicksPass_87
            · skip
              exact absurd (by first | exact c_43 | exact Classical.not_not.mp c_43) c_33
        · skip
          refine lv_aload_n hx hb dX4_letTicksPass_15 rfl (lv_at hl 0 rfl) ?_
          refine kcVv X hP hS (c_X4_tellDues l hI (n := n) (P := P) hj hPL.1 hn4 (fun c hc => ⟨(hPL.2 c hc).1, (hPL.2 c hc).2.2⟩)) (oS hj) v_X4_121 ⟨Nat.le_of_ble_eq_true rfl, Nat.le_of_ble_eq_true rfl, rfl, rfl⟩ rfl rfl (Nat.le_of_ble_eq_true rfl) hl.1 ⟨Nat.zero_le _, Nat.zero_le _⟩ dX4_letTicksPass_16 (fun G_16 H locs hR hP hS => ?_)
          have h_16 : TDR G1 G_16 j n P dc := ⟨hR.1, by rw [if_neg c_12]; exact hR.2⟩
          have hn2 : G_16 (sB j) 6 = nI n := by rw [h_16.1 _ (by unfold sB sD; omega)]; exact hPL.1
          refine lv_aload_n hx hb dX4_letTicksPass_19 rfl (lv_at hl 0 rfl) ?_
          refine kcV X hP hS (c_X4_takeDues l hI (n := n) hj hn2 hn4) (oS hj) v_X4_124 ⟨Nat.le_of_ble_eq_true rfl, Nat.le_of_ble_eq_true rfl, rfl, rfl⟩ rfl rfl (Nat.le_of_ble_eq_true rfl) hl.1 ⟨Nat.zero_le _, Nat.zero_le _⟩ dX4_letTicksPass_20 (fun r_20 G_20 H locs hR hP hS => ?_)
          have h_20 : TKR G_16 G_20 j n r_20 := hR
          refine kistW hx hb dX4_letTicksPass_23 hl (by decide) (kp_5_5 rfl) (fun ls hl => ?_)
          have hn3 : G_20 (sB j) 6 = nI n := by rw [h_20.2.1 _ (fun r hr => by unfold sB rN; omega)]; exact hn2
          refine lv_aload_n hx hb dX4_letTicksPass_25 rfl (lv_at hl 0 rfl) ?_
          refine kcV X hP hS (c_X4_shortenTerms l hI (n := n) hj hn3 hn4) (oS hj) v_X4_127 ⟨Nat.le_of_ble_eq_true rfl, Nat.le_of_ble_eq_true rfl, rfl, rfl⟩ rfl rfl (Nat.le_of_ble_eq_true rfl) hl.1 ⟨Nat.zero_le _, Nat.zero_le _⟩ dX4_letTicksPass_26 (fun r_26 G_26 H locs hR hP hS => ?_)
          have h_26 : STR G_20 G_26 j n r_26 := hR
          refine kistW hx hb dX4_letTicksPass_29 hl (by decide) (kp_6_6 rfl) (fun ls hl => ?_)
          have hn5 : G_26 (sB j) 6 = nI n := by rw [h_26.2.1 _ (fun r hr => by unfold sB rN; omega)]; exact hn3
          have hp3 : ∀ c, c < 12 → G_26 (cB j c) 2 = nI (P c) ∧ 1 ≤ P c ∧ P c ≤ 10 := fun c hc => by rw [h_26.2.1 _ (fun r hr => by unfold cB rN; omega), h_20.2.1 _ (fun r hr => by unfold cB rN; omega), h_16.1 _ (by unfold cB sD; omega)]; exact hPL.2 c hc
          refine lv_iload hx hb dX4_letTicksPass_31 (lv_at hl 5 rfl) ?_
          first
            | refine kif_eq (tgt := 41) hx hb dX4_letTicksPass_33 (by decide) (fun c_33 => ?_) (fun c_33 => ?_)
            | refine lv_if_eq (tgt := 41) hx hb dX4_letTicksPass_33 (by decide) (fun c_33 => ?_) (fun c_33 => ?_)
          · skip
            obtain ⟨G_37, hG37, h_37⟩ : ∃ G_37, G_26 = G_37 ∧ RUR G_26 G_37 j n P r_20 := ⟨G_26, rfl, by rw [RUR, if_pos c_33]⟩
            rw [hG37] at hP
            refine lv_iload hx hb dX4_letTicksPass_41 (lv_at hl 5 rfl) ?_
            first
              | refine kif_ne (tgt := 51) hx hb dX4_letTicksPass_43 (by decide) (fun c_43 => ?_) (fun c_43 => ?_)
              | refine lv_if_ne (tgt := 51) hx hb dX4_letTicksPass_43 (by decide) (fun c_43 => ?_) (fun c_43 => ?_)
            · skip
              exact absurd c_33 c_43
            · skip
              refine lv_iload hx hb dX4_letTicksPass_46 (lv_at hl 6 rfl) ?_
              first
                | refine kif_eq (tgt := 55) hx hb dX4_letTicksPass_48 (by decide) (fun c_48 => ?_) (fun c_48 => ?_)
                | refine lv_if_eq (tgt := 55) hx hb dX4_letTicksPass_48 (by decide) (fun c_48 => ?_) (fun c_48 => ?_)
              · skip
                refine lv_iconst (v := nI 0) hx hb dX4_letTicksPass_55 (by decide) ?_
                refine kist hx hb dX4_letTicksPass_56 rfl hl (by decide) (kp_7_3 rfl) (fun ls hl => ?_)
                refine lv_aload_n hx hb dX4_letTicksPass_57 rfl (lv_at hl 0 rfl) ?_
                refine lv_dup hx hb dX4_letTicksPass_58 rfl ?_
                refine kget X hP (oS hj) g_X4_59 rfl dX4_letTicksPass_59 ?_
                refine lv_iconst (v := nI 1) hx hb dX4_letTicksPass_62 (by decide) ?_
                first
                  | refine kadd hx hb dX4_letTicksPass_63 (by with_reducible rfl) (by with_reducible rfl) ?_
                  | refine lv_iadd hx hb dX4_letTicksPass_63 ?_
                refine kput X hI hP hS (oS hj) g_X4_59 (fun _ => rfl) rfl (fun _ => Nat.le_of_ble_eq_true rfl) rfl rfl dX4_letTicksPass_64 (fun H locs hP hS => ?_)
                have hn6 : (gs G_37 (sB j) 4 (G_37 (sB j) 4 + nI 1)) (sB j) 6 = nI n := by rw [gs_row (by omega), RUR_6 h_37]; exact hn5
                refine lv_aload_n hx hb dX4_letTicksPass_67 rfl (lv_at hl 0 rfl) ?_
                refine lv_iload_n hx hb dX4_letTicksPass_68 rfl (lv_at hl 2 rfl) ?_
                refine kcV X hP hS (c_X4_hasReader l hI (j := j) (x := w) hj) (oS hj) v_X4_134 ⟨Nat.le_of_ble_eq_true rfl, Nat.le_of_ble_eq_true rfl, rfl, rfl⟩ rfl rfl (Nat.le_of_ble_eq_true rfl) hl.1 ⟨Nat.zero_le _, Nat.zero_le _⟩ dX4_letTicksPass_69 (fun r_69 G_69 H locs hR hP hS => ?_)
                obtain ⟨rfl, hG_69⟩ := hR
                rw [hG_69] at hP
                clear hG_69
                first
                  | refine kif_eq (tgt := 88) hx hb dX4_letTicksPass_72 (by decide) (fun c_72 => ?_) (fun c_72 => ?_)
                  | refine lv_if_eq (tgt := 88) hx hb dX4_letTicksPass_72 (by decide) (fun c_72 => ?_) (fun c_72 => ?_)
                · skip
                  first
                    | refine kinc (q := 4) hx hb dX4_letTicksPass_88 hl rfl (by decide) (kp_7_4 rfl) (fun ls hl => ?_)
                    | refine kincG (q := 4) hx hb dX4_letTicksPass_88 hl rfl (by decide) (kp_7_4 rfl) (fun ls hl => ?_)
                  refine lv_goto (tgt := 5) hx hb dX4_letTicksPass_91 (by decide) ?_
                  exact ih_5 _ _ _ _ _ _ (by omega) (by omega) (hz (i + 1) _ _ (hs i dc _ G1 _ P (by omega) iv_1 hPL ⟨G_16, G_20, G_26, G_37, r_20, r_26, h_16, h_20, h_26, h_37, rfl, (if_pos ⟨c_33, c_48⟩).symm⟩) (fun r hr e => absurd e (hsR_no hn4 (by rw [hn6] at c_72; exact c_72) r hr))) hP hS (lv_sub hl [0,1,2,3,4] rfl)
                · skip
                  obtain ⟨r, hr, rfl⟩ := hsR_yes hn4 (by rw [hn6] at c_72; exact c_72)
                  refine lv_aload_n hx hb dX4_letTicksPass_75 rfl (lv_at hl 0 rfl) ?_
                  refine kget X hP (oS hj) g_X4_19 rfl dX4_letTicksPass_76 ?_
                  refine lv_iload_n hx hb dX4_letTicksPass_79 rfl (lv_at hl 2 rfl) ?_
                  refine kaald X hP (qR hj) (by omega) rfl dX4_letTicksPass_80 ?_
                  refine kcV X hP hS (c_X3_isOpen l hI (j := j) (r := r) hj (by omega)) (oR (r := r) hj (by omega)) v_X4_83 ⟨Nat.le_of_ble_eq_true rfl, Nat.le_of_ble_eq_true rfl, rfl, rfl⟩ rfl rfl (Nat.le_of_ble_eq_true rfl) hl.1 ⟨Nat.zero_le _, Nat.zero_le _⟩ dX4_letTicksPass_81 (fun r_81 G_81 H locs hR hP hS => ?_)
                  obtain ⟨rfl, hG_81⟩ := hR
                  rw [hG_81] at hP
                  clear hG_81
                  first
                    | refine kif_ne (tgt := 88) hx hb dX4_letTicksPass_84 (by decide) (fun c_84 => ?_) (fun c_84 => ?_)
                    | refine lv_if_ne (tgt := 88) hx hb dX4_letTicksPass_84 (by decide) (fun c_84 => ?_) (fun c_84 => ?_)
                  · skip
                    first
                      | refine kinc (q := 4) hx hb dX4_letTicksPass_88 hl rfl (by decide) (kp_7_4 rfl) (fun ls hl => ?_)
                      | refine kincG (q := 4) hx hb dX4_letTicksPass_88 hl rfl (by decide) (kp_7_4 rfl) (fun ls hl => ?_)
                    refine lv_goto (tgt := 5) hx hb dX4_letTicksPass_91 (by decide) ?_
                    exact ih_5 _ _ _ _ _ _ (by omega) (by omega) (hz (i + 1) _ _ (hs i dc _ G1 _ P (by omega) iv_1 hPL ⟨G_16, G_20, G_26, G_37, r_20, r_26, h_16, h_20, h_26, h_37, rfl, (if_pos ⟨c_33, c_48⟩).symm⟩) (fun t ht e => by rw [show t = r from ((nI_eq (by omega) (by omega)).mp e).symm]; exact c_84)) hP hS (lv_sub hl [0,1,2,3,4] rfl)
                  · skip
                    exact hret _ _ _ _ _ (Or.inr ⟨i + 1, _, r, by omega, hs i dc _ G1 _ P (by omega) iv_1 hPL ⟨G_16, G_20, G_26, G_37, r_20, r_26, h_16, h_20, h_26, h_37, rfl, (if_pos ⟨c_33, c_48⟩).symm⟩, hr, rfl, c_84⟩) hP hS dX4_letTicksPass_87
              · skip
                refine lv_iconst (v := nI 1) hx hb dX4_letTicksPass_51 (by decide) ?_
                refine lv_goto (tgt := 56) hx hb dX4_letTicksPass_52 (by decide) ?_
                refine kist hx hb dX4_letTicksPass_56 rfl hl (by decide) (kp_7_3 rfl) (fun ls hl => ?_)
                refine lv_aload_n hx hb dX4_letTicksPass_57 rfl (lv_at hl 0 rfl) ?_
                refine lv_dup hx hb dX4_letTicksPass_58 rfl ?_
                refine kget X hP (oS hj) g_X4_59 rfl dX4_letTicksPass_59 ?_
                refine lv_iconst (v := nI 1) hx hb dX4_letTicksPass_62 (by decide) ?_
                first
                  | refine kadd hx hb dX4_letTicksPass_63 (by with_reducible rfl) (by with_reducible rfl) ?_
                  | refine lv_iadd hx hb dX4_letTicksPass_63 ?_
                refine kput X hI hP hS (oS hj) g_X4_59 (fun _ => rfl) rfl (fun _ => Nat.le_of_ble_eq_true rfl) rfl rfl dX4_letTicksPass_64 (fun H locs hP hS => ?_)
                have hn6 : (gs G_37 (sB j) 4 (G_37 (sB j) 4 + nI 1)) (sB j) 6 = nI n := by rw [gs_row (by omega), RUR_6 h_37]; exact hn5
                refine lv_aload_n hx hb dX4_letTicksPass_67 rfl (lv_at hl 0 rfl) ?_
                refine lv_iload_n hx hb dX4_letTicksPass_68 rfl (lv_at hl 2 rfl) ?_
                refine kcV X hP hS (c_X4_hasReader l hI (j := j) (x := w) hj) (oS hj) v_X4_134 ⟨Nat.le_of_ble_eq_true rfl, Nat.le_of_ble_eq_true rfl, rfl, rfl⟩ rfl rfl (Nat.le_of_ble_eq_true rfl) hl.1 ⟨Nat.zero_le _, Nat.zero_le _⟩ dX4_letTicksPass_69 (fun r_69 G_69 H locs hR hP hS => ?_)
                obtain ⟨rfl, hG_69⟩ := hR
                rw [hG_69] at hP
                clear hG_69
                first
                  | refine kif_eq (tgt := 88) hx hb dX4_letTicksPass_72 (by decide) (fun c_72 => ?_) (fun c_72 => ?_)
                  | refine lv_if_eq (tgt := 88) hx hb dX4_letTicksPass_72 (by decide) (fun c_72 => ?_) (fun c_72 => ?_)
                · skip
                  first
                    | refine kinc (q := 4) hx hb dX4_letTicksPass_88 hl rfl (by decide) (kp_7_4 rfl) (fun ls hl => ?_)
                    | refine kincG (q := 4) hx hb dX4_letTicksPass_88 hl rfl (by decide) (kp_7_4 rfl) (fun ls hl => ?_)
                  refine lv_goto (tgt := 5) hx hb dX4_letTicksPass_91 (by decide) ?_
                  exact ih_5 _ _ _ _ _ _ (by omega) (by omega) (hz (i + 1) _ _ (hs i dc _ G1 _ P (by omega) iv_1 hPL ⟨G_16, G_20, G_26, G_37, r_20, r_26, h_16, h_20, h_26, h_37, rfl, (if_neg (fun z => c_48 z.2)).symm⟩) (fun r hr e => absurd e (hsR_no hn4 (by rw [hn6] at c_72; exact c_72) r hr))) hP hS (lv_sub hl [0,1,2,3,4] rfl)
                · skip
                  obtain ⟨r, hr, rfl⟩ := hsR_yes hn4 (by rw [hn6] at c_72; exact c_72)
                  refine lv_aload_n hx hb dX4_letTicksPass_75 rfl (lv_at hl 0 rfl) ?_
                  refine kget X hP (oS hj) g_X4_19 rfl dX4_letTicksPass_76 ?_
                  refine lv_iload_n hx hb dX4_letTicksPass_79 rfl (lv_at hl 2 rfl) ?_
                  refine kaald X hP (qR hj) (by omega) rfl dX4_letTicksPass_80 ?_
                  refine kcV X hP hS (c_X3_isOpen l hI (j := j) (r := r) hj (by omega)) (oR (r := r) hj (by omega)) v_X4_83 ⟨Nat.le_of_ble_eq_true rfl, Nat.le_of_ble_eq_true rfl, rfl, rfl⟩ rfl rfl (Nat.le_of_ble_eq_true rfl) hl.1 ⟨Nat.zero_le _, Nat.zero_le _⟩ dX4_letTicksPass_81 (fun r_81 G_81 H locs hR hP hS => ?_)
                  obtain ⟨rfl, hG_81⟩ := hR
                  rw [hG_81] at hP
                  clear hG_81
                  first
                    | refine kif_ne (tgt := 88) hx hb dX4_letTicksPass_84 (by decide) (fun c_84 => ?_) (fun c_84 => ?_)
                    | refine lv_if_ne (tgt := 88) hx hb dX4_letTicksPass_84 (by decide) (fun c_84 => ?_) (fun c_84 => ?_)
                  · skip
                    first
                      | refine kinc (q := 4) hx hb dX4_letTicksPass_88 hl rfl (by decide) (kp_7_4 rfl) (fun ls hl => ?_)
                      | refine kincG (q := 4) hx hb dX4_letTicksPass_88 hl rfl (by decide) (kp_7_4 rfl) (fun ls hl => ?_)
                    refine lv_goto (tgt := 5) hx hb dX4_letTicksPass_91 (by decide) ?_
                    exact ih_5 _ _ _ _ _ _ (by omega) (by omega) (hz (i + 1) _ _ (hs i dc _ G1 _ P (by omega) iv_1 hPL ⟨G_16, G_20, G_26, G_37, r_20, r_26, h_16, h_20, h_26, h_37, rfl, (if_neg (fun z => c_48 z.2)).symm⟩) (fun t ht e => by rw [show t = r from ((nI_eq (by omega) (by omega)).mp e).symm]; exact c_84)) hP hS (lv_sub hl [0,1,2,3,4] rfl)
                  · skip
                    exact hret _ _ _ _ _ (Or.inr ⟨i + 1, _, r, by omega, hs i dc _ G1 _ P (by omega) iv_1 hPL ⟨G_16, G_20, G_26, G_37, r_20, r_26, h_16, h_20, h_26, h_37, rfl, (if_neg (fun z => c_48 z.2)).symm⟩, hr, rfl, c_84⟩) hP hS dX4_letTicksPass_87
          · skip
            refine lv_aload_n hx hb dX4_letTicksPass_36 rfl (lv_at hl 0 rfl) ?_
            refine kcV X hP hS (c_X4_removeUnseen l hI (j := j) (n := n) (P := P) hj hn5 hn4 hp3) (oS hj) v_X4_130 ⟨Nat.le_of_ble_eq_true rfl, Nat.le_of_ble_eq_true rfl, rfl, rfl⟩ rfl rfl (Nat.le_of_ble_eq_true rfl) hl.1 ⟨Nat.zero_le _, Nat.zero_le _⟩ dX4_letTicksPass_37 (fun r_37 G_37 H locs hR hP hS => ?_)
            have h_37 : RUR G_26 G_37 j n P r_20 := by rw [RUR, if_neg c_33]; exact ⟨r_37, hR⟩
            refine lv_pop hx hb dX4_letTicksPass_40 rfl ?_
            refine lv_iload hx hb dX4_letTicksPass_41 (lv_at hl 5 rfl) ?_
            first
              | refine kif_ne (tgt := 51) hx hb dX4_letTicksPass_43 (by decide) (fun c_43 => ?_) (fun c_43 => ?_)
              | refine lv_if_ne (tgt := 51) hx hb dX4_letTicksPass_43 (by decide) (fun c_43 => ?_) (fun c_43 => ?_)
            · skip
              refine lv_iconst (v := nI 1) hx hb dX4_letTicksPass_51 (by decide) ?_
              refine lv_goto (tgt := 56) hx hb dX4_letTicksPass_52 (by decide) ?_
              refine kist hx hb dX4_letTicksPass_56 rfl hl (by decide) (kp_7_3 rfl) (fun ls hl => ?_)
              refine lv_aload_n hx hb dX4_letTicksPass_57 rfl (lv_at hl 0 rfl) ?_
              refine lv_dup hx hb dX4_letTicksPass_58 rfl ?_
              refine kget X hP (oS hj) g_X4_59 rfl dX4_letTicksPass_59 ?_
              refine lv_iconst (v := nI 1) hx hb dX4_letTicksPass_62 (by decide) ?_
              first
                | refine kadd hx hb dX4_letTicksPass_63 (by with_reducible rfl) (by with_reducible rfl) ?_
                | refine lv_iadd hx hb dX4_letTicksPass_63 ?_
              refine kput X hI hP hS (oS hj) g_X4_59 (fun _ => rfl) rfl (fun _ => Nat.le_of_ble_eq_true rfl) rfl rfl dX4_letTicksPass_64 (fun H locs hP hS => ?_)
              have hn6 : (gs G_37 (sB j) 4 (G_37 (sB j) 4 + nI 1)) (sB j) 6 = nI n := by rw [gs_row (by omega), RUR_6 h_37]; exact hn5
              refine lv_aload_n hx hb dX4_letTicksPass_67 rfl (lv_at hl 0 rfl) ?_
              refine lv_iload_n hx hb dX4_letTicksPass_68 rfl (lv_at hl 2 rfl) ?_
              refine kcV X hP hS (c_X4_hasReader l hI (j := j) (x := w) hj) (oS hj) v_X4_134 ⟨Nat.le_of_ble_eq_true rfl, Nat.le_of_ble_eq_true rfl, rfl, rfl⟩ rfl rfl (Nat.le_of_ble_eq_true rfl) hl.1 ⟨Nat.zero_le _, Nat.zero_le _⟩ dX4_letTicksPass_69 (fun r_69 G_69 H locs hR hP hS => ?_)
              obtain ⟨rfl, hG_69⟩ := hR
              rw [hG_69] at hP
              clear hG_69
              first
                | refine kif_eq (tgt := 88) hx hb dX4_letTicksPass_72 (by decide) (fun c_72 => ?_) (fun c_72 => ?_)
                | refine lv_if_eq (tgt := 88) hx hb dX4_letTicksPass_72 (by decide) (fun c_72 => ?_) (fun c_72 => ?_)
              · skip
                first
                  | refine kinc (q := 4) hx hb dX4_letTicksPass_88 hl rfl (by decide) (kp_7_4 rfl) (fun ls hl => ?_)
                  | refine kincG (q := 4) hx hb dX4_letTicksPass_88 hl rfl (by decide) (kp_7_4 rfl) (fun ls hl => ?_)
                refine lv_goto (tgt := 5) hx hb dX4_letTicksPass_91 (by decide) ?_
                exact ih_5 _ _ _ _ _ _ (by omega) (by omega) (hz (i + 1) _ _ (hs i dc _ G1 _ P (by omega) iv_1 hPL ⟨G_16, G_20, G_26, G_37, r_20, r_26, h_16, h_20, h_26, h_37, rfl, (if_neg (fun z => c_33 z.1)).symm⟩) (fun r hr e => absurd e (hsR_no hn4 (by rw [hn6] at c_72; exact c_72) r hr))) hP hS (lv_sub hl [0,1,2,3,4] rfl)
              · skip
                obtain ⟨r, hr, rfl⟩ := hsR_yes hn4 (by rw [hn6] at c_72; exact c_72)
                refine lv_aload_n hx hb dX4_letTicksPass_75 rfl (lv_at hl 0 rfl) ?_
                refine kget X hP (oS hj) g_X4_19 rfl dX4_letTicksPass_76 ?_
                refine lv_iload_n hx hb dX4_letTicksPass_79 rfl (lv_at hl 2 rfl) ?_
                refine kaald X hP (qR hj) (by omega) rfl dX4_letTicksPass_80 ?_
                refine kcV X hP hS (c_X3_isOpen l hI (j := j) (r := r) hj (by omega)) (oR (r := r) hj (by omega)) v_X4_83 ⟨Nat.le_of_ble_eq_true rfl, Nat.le_of_ble_eq_true rfl, rfl, rfl⟩ rfl rfl (Nat.le_of_ble_eq_true rfl) hl.1 ⟨Nat.zero_le _, Nat.zero_le _⟩ dX4_letTicksPass_81 (fun r_81 G_81 H locs hR hP hS => ?_)
                obtain ⟨rfl, hG_81⟩ := hR
                rw [hG_81] at hP
                clear hG_81
                first
                  | refine kif_ne (tgt := 88) hx hb dX4_letTicksPass_84 (by decide) (fun c_84 => ?_) (fun c_84 => ?_)
                  | refine lv_if_ne (tgt := 88) hx hb dX4_letTicksPass_84 (by decide) (fun c_84 => ?_) (fun c_84 => ?_)
                · skip
                  first
                    | refine kinc (q := 4) hx hb dX4_letTicksPass_88 hl rfl (by decide) (kp_7_4 rfl) (fun ls hl => ?_)
                    | refine kincG (q := 4) hx hb dX4_letTicksPass_88 hl rfl (by decide) (kp_7_4 rfl) (fun ls hl => ?_)
                  refine lv_goto (tgt := 5) hx hb dX4_letTicksPass_91 (by decide) ?_
                  exact ih_5 _ _ _ _ _ _ (by omega) (by omega) (hz (i + 1) _ _ (hs i dc _ G1 _ P (by omega) iv_1 hPL ⟨G_16, G_20, G_26, G_37, r_20, r_26, h_16, h_20, h_26, h_37, rfl, (if_neg (fun z => c_33 z.1)).symm⟩) (fun t ht e => by rw [show t = r from ((nI_eq (by omega) (by omega)).mp e).symm]; exact c_84)) hP hS (lv_sub hl [0,1,2,3,4] rfl)
                · skip
                  exact hret _ _ _ _ _ (Or.inr ⟨i + 1, _, r, by omega, hs i dc _ G1 _ P (by omega) iv_1 hPL ⟨G_16, G_20, G_26, G_37, r_20, r_26, h_16, h_20, h_26, h_37, rfl, (if_neg (fun z => c_33 z.1)).symm⟩, hr, rfl, c_84⟩) hP hS dX4_letTicksPass_87
            · skip
              exact absurd (by first | exact c_43 | exact Classical.not_not.mp c_43) c_33
  exact lp_5 _ 0 (nI 1) G _ _ _ (Nat.lt_succ_self _) (Nat.zero_le _) (h0) hP hS (lv_sub hl [0,1,2,3,4] rfl)
