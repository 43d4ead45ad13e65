theorem so_p {f : Nat → Int32} {n : Nat} {x y : Int32} (h : x = so f n) (hf : f n = y) : x ||| y = so f (n + 1) := by rw [so, h, hf]
theorem so_z {f : Nat → Int32} {n : Nat} {x : Int32} (h : x = so f n) (hf : f n = 0) : x = so f (n + 1) := by
  rw [so, h, hf]
  exact (Int32.or_zero).symm
theorem sm_s {f : Nat → Int32} {n : Nat} {x y : Int32} (h : x = sm f n) (hf : f n = y) : x + y = sm f (n + 1) := by rw [sm, h, hf]
theorem cn_mono {f : Nat → Nat} {m n : Nat} (h : m ≤ n) : cn f m ≤ cn f n := by
  induction n with
  | zero => rw [show m = 0 by omega]; exact Nat.le_refl _
  | succ n ih =>
    rcases Nat.lt_or_ge n m with q | q
    · rw [show m = n + 1 by omega]; exact Nat.le_refl _
    · rw [cn]; have := ih q; omega
theorem cn_pos {f : Nat → Nat} {i n : Nat} (h : i < n) (hf : f i ≠ 0) : cn f n ≠ 0 := by
  have h1 : cn f (i + 1) ≤ cn f n := cn_mono h
  rw [cn] at h1
  omega
/-- what a call of placesSeen gathers from one reader -/
def psB (G : Nat → Nat → Int32) (j c P : Nat) (q : Int32) : Nat → Int32 := fun i => if ¬ nI i = q ∧ G (rN j i) 1 = 0 ∧ ¬ pf (G (cM j c)) (G (rN j i) 2) 0 P = -1 then nI 1 <<< (pf (G (cM j c)) (G (rN j i) 2) 0 P &&& 31) else 0
theorem pf_or (mo : Nat → Int32) (x : Int32) (i P : Nat) : pf mo x i P = -1 ∨ ∃ w, w < i + P ∧ pf mo x i P = nI w := by
  induction P generalizing i with
  | zero => exact Or.inl rfl
  | succ P ih =>
    rw [pf]
    by_cases h : mo i ≤ x
    · rw [if_pos h]; exact Or.inr ⟨i, by omega, rfl⟩
    · rw [if_neg h]
      rcases ih (i + 1) with q | ⟨w, q1, q2⟩
      · exact Or.inl q
      · exact Or.inr ⟨w, by omega, q2⟩
def vsF (va mo : Nat → Int32) (x : Int32) (P : Nat) : Int32 := if pf mo x 0 P = -1 then 0 else va (pf mo x 0 P).toNatClampNeg
theorem nI_m1 {w : Nat} (h : w < 2 ^ 31) : ¬ nI w = -1 := fun q => by
  have h1 := congrArg Int32.toInt q
  rw [nI_toInt h] at h1
  rw [show (-1 : Int32).toInt = -1 from rfl] at h1
  omega
theorem vsF_at {va mo : Nat → Int32} {x : Int32} {P w : Nat} (h : pf mo x 0 P = nI w) (hw : w < 2 ^ 31) : vsF va mo x P = va w := by
  rw [vsF, h, if_neg (nI_m1 hw), nI_clamp hw]
def pyF (G : Nat → Nat → Int32) (j n c P : Nat) (q : Int32) : Nat := cn (fun i => if (G (rN j i) 1 = 0 ∧ G (rN j i) 6 = 0) ∧ pf (G (cM j c)) (G (rN j i) 2) 0 P = q then 1 else 0) n
def shF (G : Nat → Nat → Int32) (j n c P : Nat) (q : Int32) : Int32 := if q ≤ 0 then 0 else if nI (pyF G j n c P q) = 0 then 0 else (G (sB j) 5 + nI (pyF G j n c P q) - nI 1) / nI (pyF G j n c P q)
def dueF (G : Nat → Nat → Int32) (j n : Nat) (P : Nat → Nat) (r : Nat) : Int32 := if G (rN j r) 1 = 0 ∧ G (rN j r) 6 = 0 then sm (fun c => shF G j n c (P c) (pf (G (cM j c)) (G (rN j r) 2) 0 (P c))) 12 else 0
def cfF (G : Nat → Nat → Int32) (j r : Nat) : Nat → Nat := fun c => if hw (G (rN j r) 5) c ∧ G (rN j r) 2 < G (cM j c) 0 then 1 else 0
/-- an earlier commit's row and a reader's row: in skew -/
abbrev skF (a b : Nat → Int32) : Prop := b 2 < a 2 ∧ ¬ (b 4 &&& a 3 = 0) ∧ ¬ (a 4 &&& b 5 = 0) ∧ a 3 &&& b 5 = 0
def bc1 (x : Int32) : Int32 := x - ((x.toUInt32 >>> ((nI 1).toUInt32 &&& Int32.toUInt32 31)).toInt32 &&& 1431655765)
def bc2 (x : Int32) : Int32 := (x &&& 858993459) + ((x.toUInt32 >>> ((nI 2).toUInt32 &&& Int32.toUInt32 31)).toInt32 &&& 858993459)
def bc3 (x : Int32) : Int32 := x + (x.toUInt32 >>> ((nI 4).toUInt32 &&& Int32.toUInt32 31)).toInt32 &&& 252645135
def bc4 (x : Int32) : Int32 := x + (x.toUInt32 >>> ((nI 8).toUInt32 &&& Int32.toUInt32 31)).toInt32
def bc5 (x : Int32) : Int32 := x + (x.toUInt32 >>> ((nI 16).toUInt32 &&& Int32.toUInt32 31)).toInt32
def bcF (x : Int32) : Int32 := bc5 (bc4 (bc3 (bc2 (bc1 x)))) &&& nI 63
def ovF (G : Nat → Nat → Int32) (j n r : Nat) (P : Nat → Nat) : Nat → Int32 := fun c => bcF (if hw (G (rN j r) 5) c then so (psB G j c (P c) (nI r)) n else so (psB G j c (P c) (nI r)) n &&& (-2))
set_option maxHeartbeats 4000000 in
set_option maxRecDepth 100000 in
theorem c_J6_bitCount_0f7a4 (l : Launch) {D : va_G} {τ : Nat → ClassId} {ad : Nat → Nat} (hI : kInj ad) {G : Nat → Nat → Int32} {x : Int32} : kM l yJ6_bitCount_0f7a4 cJ6_bitCount_0f7a4 1 (some .int) { frames := 0, cells := 0, slots := 0, locals := 0 } D τ ad [.int x] G (fun v G' => v = bcF x ∧ G' = G) := by
  refine kMet (own := RJ6) (by decide) rfl (Nat.le_of_ble_eq_true rfl) ?_
  intro p9 e9 s9 m9 args9 below9 meth9 c9 Q9 X hx hb hP hS hret ls hl
  have hl : lv_has ls 1 [(0, .int x)] := hl
  refine lv_iload_n hx hb dJ6_bitCount_0f7a4_0 rfl (lv_at hl 0 rfl) ?_
  refine lv_iload_n hx hb dJ6_bitCount_0f7a4_1 rfl (lv_at hl 0 rfl) ?_
  refine lv_iconst (v := nI 1) hx hb dJ6_bitCount_0f7a4_2 (by decide) ?_
  refine lv_iushr hx hb dJ6_bitCount_0f7a4_3 rfl ?_
  refine lv_ldcw (v := 1431655765) hx hb X.2.2.2.1 (X.2.2.2.2.1 (.constant RJ6 265 1431655765) (kWs_of 488 (by decide +kernel) rfl)) dJ6_bitCount_0f7a4_4 ?_
  refine lv_iand hx hb dJ6_bitCount_0f7a4_7 ?_
  refine lv_isub hx hb dJ6_bitCount_0f7a4_8 ?_
  refine kist hx hb dJ6_bitCount_0f7a4_9 rfl hl (by decide) kp_1_0 (fun ls hl => ?_)
  refine lv_iload_n hx hb dJ6_bitCount_0f7a4_10 rfl (lv_at hl 0 rfl) ?_
  refine lv_ldcw (v := 858993459) hx hb X.2.2.2.1 (X.2.2.2.2.1 (.constant RJ6 266 858993459) (kWs_of 489 (by decide +kernel) rfl)) dJ6_bitCount_0f7a4_11 ?_
  refine lv_iand hx hb dJ6_bitCount_0f7a4_14 ?_
  refine lv_iload_n hx hb dJ6_bitCount_0f7a4_15 rfl (lv_at hl 0 rfl) ?_
  refine lv_iconst (v := nI 2) hx hb dJ6_bitCount_0f7a4_16 (by decide) ?_
  refine lv_iushr hx hb dJ6_bitCount_0f7a4_17 rfl ?_
  refine lv_ldcw (v := 858993459) hx hb X.2.2.2.1 (X.2.2.2.2.1 (.constant RJ6 266 858993459) (kWs_of 489 (by decide +kernel) rfl)) dJ6_bitCount_0f7a4_18 ?_
  refine lv_iand hx hb dJ6_bitCount_0f7a4_21 ?_
  refine lv_iadd hx hb dJ6_bitCount_0f7a4_22 ?_
  refine kist hx hb dJ6_bitCount_0f7a4_23 rfl hl (by decide) kp_1_0 (fun ls hl => ?_)
  refine lv_iload_n hx hb dJ6_bitCount_0f7a4_24 rfl (lv_at hl 0 rfl) ?_
  refine lv_iload_n hx hb dJ6_bitCount_0f7a4_25 rfl (lv_at hl 0 rfl) ?_
  refine lv_iconst (v := nI 4) hx hb dJ6_bitCount_0f7a4_26 (by decide) ?_
  refine lv_iushr hx hb dJ6_bitCount_0f7a4_27 rfl ?_
  refine lv_iadd hx hb dJ6_bitCount_0f7a4_28 ?_
  refine lv_ldcw (v := 252645135) hx hb X.2.2.2.1 (X.2.2.2.2.1 (.constant RJ6 267 252645135) (kWs_of 490 (by decide +kernel) rfl)) dJ6_bitCount_0f7a4_29 ?_
  refine lv_iand hx hb dJ6_bitCount_0f7a4_32 ?_
  refine kist hx hb dJ6_bitCount_0f7a4_33 rfl hl (by decide) kp_1_0 (fun ls hl => ?_)
  refine lv_iload_n hx hb dJ6_bitCount_0f7a4_34 rfl (lv_at hl 0 rfl) ?_
  refine lv_iload_n hx hb dJ6_bitCount_0f7a4_35 rfl (lv_at hl 0 rfl) ?_
  refine lv_bipush (v := nI 8) hx hb dJ6_bitCount_0f7a4_36 (by decide) ?_
  refine lv_iushr hx hb dJ6_bitCount_0f7a4_38 rfl ?_
  refine lv_iadd hx hb dJ6_bitCount_0f7a4_39 ?_
  refine kist hx hb dJ6_bitCount_0f7a4_40 rfl hl (by decide) kp_1_0 (fun ls hl => ?_)
  refine lv_iload_n hx hb dJ6_bitCount_0f7a4_41 rfl (lv_at hl 0 rfl) ?_
  refine lv_iload_n hx hb dJ6_bitCount_0f7a4_42 rfl (lv_at hl 0 rfl) ?_
  refine lv_bipush (v := nI 16) hx hb dJ6_bitCount_0f7a4_43 (by decide) ?_
  refine lv_iushr hx hb dJ6_bitCount_0f7a4_45 rfl ?_
  refine lv_iadd hx hb dJ6_bitCount_0f7a4_46 ?_
  refine kist hx hb dJ6_bitCount_0f7a4_47 rfl hl (by decide) kp_1_0 (fun ls hl => ?_)
  refine lv_iload_n hx hb dJ6_bitCount_0f7a4_48 rfl (lv_at hl 0 rfl) ?_
  refine lv_bipush (v := nI 63) hx hb dJ6_bitCount_0f7a4_49 (by decide) ?_
  refine lv_iand hx hb dJ6_bitCount_0f7a4_51 ?_
  exact hret _ _ _ _ _ _ ⟨rfl, rfl⟩ hP hS dJ6_bitCount_0f7a4_52
set_option maxHeartbeats 4000000 in
set_option maxRecDepth 100000 in
theorem c_X4_openWidows (l : Launch) {D : va_G} {τ : Nat → ClassId} {ad : Nat → Nat} (hI : kInj ad) {G : Nat → Nat → Int32} {j n : Nat} (hj : j < 7) (hn : G (sB j) 6 = nI n) (hn4 : n ≤ 40) : kM l yX4_openWidows cX4_openWidows 3 (some .int) { frames := 1, cells := 0, slots := 0, locals := 20 } D τ ad [.ref (ad (sB j))] G (fun v G' => v = nI (cn (fun i => if G (rN j i) 1 = 0 ∧ 0 < G (rN j i) 6 then 1 else 0) n) ∧ G' = G) := by
  refine kMet (own := RX4) (by decide) rfl (Nat.le_of_ble_eq_true rfl) ?_
  intro p9 e9 s9 m9 args9 below9 meth9 c9 Q9 X hx hb hP hS hret ls hl
  have hPs := hP
  have hl : lv_has ls 3 [(0, .ref (ad (sB j)))] := hl
  refine lv_iconst (v := nI 0) hx hb dX4_openWidows_0 (by decide) ?_
  refine kist hx hb dX4_openWidows_1 rfl hl (by decide) (kp_1_1 rfl) (fun ls hl => ?_)
  refine lv_iconst (v := nI 0) hx hb dX4_openWidows_2 (by decide) ?_
  refine kist hx hb dX4_openWidows_3 rfl hl (by decide) (kp_2_2 rfl) (fun ls hl => ?_)
  have lp_4 : ∀ (d : Nat) (i x : Nat) (H : Heap) (locs : List Loc) (ls : Array Slot), (n - i) < d → (i ≤ n) → (x = cn (fun i => if G (rN j i) 1 = 0 ∧ 0 < G (rN j i) 6 then 1 else 0) i) → va_P D vwCl (kW τ ad G) H → va_S (kAd ad) s9.heap H locs → lv_has ls 3 [(0, .ref (ad (sB j))), (1, .int (nI x)), (2, .int (nI i))] → W p9 l e9 { frames := 1, cells := 0, slots := 0, locals := 20 } s9 m9 args9 below9 meth9 c9 H locs 0 0 Q9 (F0 m9 4 ls []) := by
    intro d
    induction d with
    | zero => exact fun _ _ _ _ _ hd => absurd hd (Nat.not_lt_zero _)
    | succ d ih_4 =>
      intro i x H locs ls hd iv_0 iv_1 hP hS hl
      refine lv_iload_n hx hb dX4_openWidows_4 rfl (lv_at hl 2 rfl) ?_
      refine lv_aload_n hx hb dX4_openWidows_5 rfl (lv_at hl 0 rfl) ?_
      refine kget X hP (oS (by first | assumption | omega)) g_X4_44 (congrArg (fun z => some (Value.int z)) hn) dX4_openWidows_6 ?_
      first
        | refine kic_ge (tgt := 33) hx hb dX4_openWidows_9 (by decide) (by with_reducible rfl) (by with_reducible rfl) (by omega) (by omega) (fun c_9 => ?_) (fun c_9 => ?_)
        | refine lv_icmp_ge (tgt := 33) hx hb dX4_openWidows_9 (by decide) (fun c_9 => ?_) (fun c_9 => ?_)
      · skip
        refine lv_iload_n hx hb dX4_openWidows_33 rfl (lv_at hl 1 rfl) ?_
        exact hret _ _ _ _ _ _ (⟨congrArg nI (iv_1.trans (by rw [show i = n by omega])), rfl⟩) hP hS dX4_openWidows_34
      · skip
        refine lv_aload_n hx hb dX4_openWidows_12 rfl (lv_at hl 0 rfl) ?_
        refine kget X hP (oS (by first | assumption | omega)) g_X4_19 rfl dX4_openWidows_13 ?_
        refine lv_iload_n hx hb dX4_openWidows_16 rfl (lv_at hl 2 rfl) ?_
        refine kaald X hP (qR (by first | assumption | omega)) (by first | assumption | omega) rfl dX4_openWidows_17 ?_
        refine kcV X hP hS (c_X3_isOpenWidow l hI (by first | assumption | omega) (by first | assumption | omega)) (oR (by first | assumption | omega) (by first | assumption | omega)) v_X4_76 ⟨Nat.le_of_ble_eq_true rfl, Nat.le_of_ble_eq_true rfl, rfl, rfl⟩ rfl rfl (Nat.le_of_ble_eq_true rfl) hl.1 ⟨Nat.zero_le _, Nat.zero_le _⟩ dX4_openWidows_18 (fun r_18 G_18 H locs hR hP hS => ?_)
        obtain ⟨rfl, hG_18⟩ := hR
        rw [hG_18] at hP
        clear hG_18
        first
          | refine kif_eq (tgt := 27) hx hb dX4_openWidows_21 (by decide) (fun c_21 => ?_) (fun c_21 => ?_)
          | refine lv_if_eq (tgt := 27) hx hb dX4_openWidows_21 (by decide) (fun c_21 => ?_) (fun c_21 => ?_)
        · skip
          first
            | refine kinc (q := 2) hx hb dX4_openWidows_27 hl rfl (by decide) (kp_3_2 rfl) (fun ls hl => ?_)
            | refine kincG (q := 2) hx hb dX4_openWidows_27 hl rfl (by decide) (kp_3_2 rfl) (fun ls hl => ?_)
          refine lv_goto (tgt := 4) hx hb dX4_openWidows_30 (by decide) ?_
          exact ih_4 _ _ _ _ _ (by omega) (by omega) (by first | exact cn_p iv_1 (if_pos (by first | assumption | exact ⟨‹_›, ‹_›⟩)) | exact cn_z iv_1 (if_neg (by first | assumption | (intro z; exact absurd z.1 ‹_›) | (intro z; exact absurd z.2 ‹_›)))) hP hS (lv_sub hl [0,1,2] rfl)
        · skip
          first
            | refine kinc (q := 1) hx hb dX4_openWidows_24 hl rfl (by decide) (kp_3_1 rfl) (fun ls hl => ?_)
            | refine kincG (q := 1) hx hb dX4_openWidows_24 hl rfl (by decide) (kp_3_1 rfl) (fun ls hl => ?_)
          first
            | refine kinc (q := 2) hx hb dX4_openWidows_27 hl rfl (by decide) (kp_3_2 rfl) (fun ls hl => ?_)
            | refine kincG (q := 2) hx hb dX4_openWidows_27 hl rfl (by decide) (kp_3_2 rfl) (fun ls hl => ?_)
          refine lv_goto (tgt := 4) hx hb dX4_openWidows_30 (by decide) ?_
          exact ih_4 _ _ _ _ _ (by omega) (by omega) (by first | exact cn_p iv_1 (if_pos (by first | assumption | exact ⟨‹_›, ‹_›⟩)) | exact cn_z iv_1 (if_neg (by first | assumption | (intro z; exact absurd z.1 ‹_›) | (intro z; exact absurd z.2 ‹_›)))) hP hS (lv_sub hl [0,1,2] rfl)
  exact lp_4 _ 0 0 _ _ _ (Nat.lt_succ_self _) (Nat.zero_le _) (rfl) hP hS (lv_sub hl [0,1,2] rfl)

set_option maxHeartbeats 4000000 in
set_option maxRecDepth 100000 in
theorem c_X4_coinsPaid (l : Launch) {D : va_G} {τ : Nat → ClassId} {ad : Nat → Nat} (hI : kInj ad) {G : Nat → Nat → Int32} {j n : Nat} (hj : j < 7) (hn : G (sB j) 6 = nI n) (hn4 : n ≤ 40) : kM l yX4_coinsPaid cX4_coinsPaid 3 (some .int) { frames := 0, cells := 0, slots := 0, locals := 0 } D τ ad [.ref (ad (sB j))] G (fun v G' => v = sm (fun i => G (rN j i) 7) n ∧ G' = G) := by
  refine kMet (own := RX4) (by decide) rfl (Nat.le_of_ble_eq_true rfl) ?_
  intro p9 e9 s9 m9 args9 below9 meth9 c9 Q9 X hx hb hP hS hret ls hl
  have hPs := hP
  have hl : lv_has ls 3 [(0, .ref (ad (sB j)))] := hl
  refine lv_iconst (v := nI 0) hx hb dX4_coinsPaid_0 (by decide) ?_
  refine kist hx hb dX4_coinsPaid_1 rfl hl (by decide) (kp_1_1 rfl) (fun ls hl => ?_)
  refine lv_iconst (v := nI 0) hx hb dX4_coinsPaid_2 (by decide) ?_
  refine kist hx hb dX4_coinsPaid_3 rfl hl (by decide) (kp_2_2 rfl) (fun ls hl => ?_)
  have lp_4 : ∀ (d : Nat) (i : Nat) (x : Int32) (H : Heap) (locs : List Loc) (ls : Array Slot), (n - i) < d → (i ≤ n) → (x = sm (fun i => G (rN j i) 7) i) → va_P D vwCl (kW τ ad G) H → va_S (kAd ad) s9.heap H locs → lv_has ls 3 [(0, .ref (ad (sB j))), (1, .int x), (2, .int (nI i))] → W p9 l e9 { frames := 0, cells := 0, slots := 0, locals := 0 } s9 m9 args9 below9 meth9 c9 H locs 0 0 Q9 (F0 m9 4 ls []) := by
    intro d
    induction d with
    | zero => exact fun _ _ _ _ _ hd => absurd hd (Nat.not_lt_zero _)
    | succ d ih_4 =>
      intro i x H locs ls hd iv_0 iv_1 hP hS hl
      refine lv_iload_n hx hb dX4_coinsPaid_4 rfl (lv_at hl 2 rfl) ?_
      refine lv_aload_n hx hb dX4_coinsPaid_5 rfl (lv_at hl 0 rfl) ?_
      refine kget X hP (oS (by first | assumption | omega)) g_X4_44 (congrArg (fun z => some (Value.int z)) hn) dX4_coinsPaid_6 ?_
      first
        | refine kic_ge (tgt := 30) hx hb dX4_coinsPaid_9 (by decide) (by with_reducible rfl) (by with_reducible rfl) (by omega) (by omega) (fun c_9 => ?_) (fun c_9 => ?_)
        | refine lv_icmp_ge (tgt := 30) hx hb dX4_coinsPaid_9 (by decide) (fun c_9 => ?_) (fun c_9 => ?_)
      · skip
        refine lv_iload_n hx hb dX4_coinsPaid_30 rfl (lv_at hl 1 rfl) ?_
        exact hret _ _ _ _ _ _ (⟨iv_1.trans (by rw [show i = n by omega]), rfl⟩) hP hS dX4_coinsPaid_31
      · skip
        refine lv_iload_n hx hb dX4_coinsPaid_12 rfl (lv_at hl 1 rfl) ?_
        refine lv_aload_n hx hb dX4_coinsPaid_13 rfl (lv_at hl 0 rfl) ?_
        refine kget X hP (oS (by first | assumption | omega)) g_X4_19 rfl dX4_coinsPaid_14 ?_
        refine lv_iload_n hx hb dX4_coinsPaid_17 rfl (lv_at hl 2 rfl) ?_
        refine kaald X hP (qR (by first | assumption | omega)) (by first | assumption | omega) rfl dX4_coinsPaid_18 ?_
        refine kget X hP (oR (by first | assumption | omega) (by first | assumption | omega)) g_X4_80 rfl dX4_coinsPaid_19 ?_
        first
          | refine kadd hx hb dX4_coinsPaid_22 (by with_reducible rfl) (by with_reducible rfl) ?_
          | refine lv_iadd hx hb dX4_coinsPaid_22 ?_
        refine kist hx hb dX4_coinsPaid_23 rfl hl (by decide) (kp_3_1 rfl) (fun ls hl => ?_)
        first
          | refine kinc (q := 2) hx hb dX4_coinsPaid_24 hl rfl (by decide) (kp_3_2 rfl) (fun ls hl => ?_)
          | refine kincG (q := 2) hx hb dX4_coinsPaid_24 hl rfl (by decide) (kp_3_2 rfl) (fun ls hl => ?_)
        refine lv_goto (tgt := 4) hx hb dX4_coinsPaid_27 (by decide) ?_
        exact ih_4 _ _ _ _ _ (by omega) (by omega) (by rw [iv_1]; rfl) hP hS (lv_sub hl [0,1,2] rfl)
  exact lp_4 _ 0 0 _ _ _ (Nat.lt_succ_self _) (Nat.zero_le _) (rfl) hP hS (lv_sub hl [0,1,2] rfl)

set_option maxHeartbeats 4000000 in
set_option maxRecDepth 100000 in
theorem c_X4_writersOf (l : Launch) {D : va_G} {τ : Nat → ClassId} {ad : Nat → Nat} (hI : kInj ad) {G : Nat → Nat → Int32} {j n c : Nat} (hj : j < 7) (hn : G (sB j) 6 = nI n) (hn4 : n ≤ 40) : kM l yX4_writersOf cX4_writersOf 4 (some .int) { frames := 1, cells := 0, slots := 0, locals := 21 } D τ ad [.ref (ad (sB j)), .int (nI c)] G (fun v G' => v = nI (cn (fun i => if G (rN j i) 1 = 0 ∧ hw (G (rN j i) 5) c then 1 else 0) n) ∧ G' = G) := by
  refine kMet (own := RX4) (by decide) rfl (Nat.le_of_ble_eq_true rfl) ?_
  intro p9 e9 s9 m9 args9 below9 meth9 c9 Q9 X hx hb hP hS hret ls hl
  have hPs := hP
  have hl : lv_has ls 4 [(0, .ref (ad (sB j))), (1, .int (nI c))] := hl
  refine lv_iconst (v := nI 0) hx hb dX4_writersOf_0 (by decide) ?_
  refine kist hx hb dX4_writersOf_1 rfl hl (by decide) (kp_2_2 rfl) (fun ls hl => ?_)
  refine lv_iconst (v := nI 0) hx hb dX4_writersOf_2 (by decide) ?_
  refine kist hx hb dX4_writersOf_3 rfl hl (by decide) (kp_3_3 rfl) (fun ls hl => ?_)
  have lp_4 : ∀ (d : Nat) (i x : Nat) (H : Heap) (locs : List Loc) (ls : Array Slot), (n - i) < d → (i ≤ n) → (x = cn (fun i => if G (rN j i) 1 = 0 ∧ hw (G (rN j i) 5) c then 1 else 0) i) → va_P D vwCl (kW τ ad G) H → va_S (kAd ad) s9.heap H locs → lv_has ls 4 [(0, .ref (ad (sB j))), (1, .int (nI c)), (2, .int (nI x)), (3, .int (nI i))] → W p9 l e9 { frames := 1, cells := 0, slots := 0, locals := 21 } s9 m9 args9 below9 meth9 c9 H locs 0 0 Q9 (F0 m9 4 ls []) := by
    intro d
    induction d with
    | zero => exact fun _ _ _ _ _ hd => absurd hd (Nat.not_lt_zero _)
    | succ d ih_4 =>
      intro i x H locs ls hd iv_0 iv_1 hP hS hl
      refine lv_iload_n hx hb dX4_writersOf_4 rfl (lv_at hl 3 rfl) ?_
      refine lv_aload_n hx hb dX4_writersOf_5 rfl (lv_at hl 0 rfl) ?_
      refine kget X hP (oS (by first | assumption | omega)) g_X4_44 (congrArg (fun z => some (Value.int z)) hn) dX4_writersOf_6 ?_
      first
        | refine kic_ge (tgt := 46) hx hb dX4_writersOf_9 (by decide) (by with_reducible rfl) (by with_reducible rfl) (by omega) (by omega) (fun c_9 => ?_) (fun c_9 => ?_)
        | refine lv_icmp_ge (tgt := 46) hx hb dX4_writersOf_9 (by decide) (fun c_9 => ?_) (fun c_9 => ?_)
      · skip
        refine lv_iload_n hx hb dX4_writersOf_46 rfl (lv_at hl 2 rfl) ?_
        exact hret _ _ _ _ _ _ (⟨congrArg nI (iv_1.trans (by rw [show i = n by omega])), rfl⟩) hP hS dX4_writersOf_47
      · skip
        refine lv_aload_n hx hb dX4_writersOf_12 rfl (lv_at hl 0 rfl) ?_
        refine kget X hP (oS (by first | assumption | omega)) g_X4_19 rfl dX4_writersOf_13 ?_
        refine lv_iload_n hx hb dX4_writersOf_16 rfl (lv_at hl 3 rfl) ?_
        refine kaald X hP (qR (by first | assumption | omega)) (by first | assumption | omega) rfl dX4_writersOf_17 ?_
        refine kcV X hP hS (c_X3_isOpen l hI (by first | assumption | omega) (by first | assumption | omega)) (oR (by first | assumption | omega) (by first | assumption | omega)) v_X4_83 ⟨Nat.le_of_ble_eq_true rfl, Nat.le_of_ble_eq_true rfl, rfl, rfl⟩ rfl rfl (Nat.le_of_ble_eq_true rfl) hl.1 ⟨Nat.zero_le _, Nat.zero_le _⟩ dX4_writersOf_18 (fun r_18 G_18 H locs hR hP hS => ?_)
        obtain ⟨rfl, hG_18⟩ := hR
        rw [hG_18] at hP
        clear hG_18
        first
          | refine kif_eq (tgt := 40) hx hb dX4_writersOf_21 (by decide) (fun c_21 => ?_) (fun c_21 => ?_)
          | refine lv_if_eq (tgt := 40) hx hb dX4_writersOf_21 (by decide) (fun c_21 => ?_) (fun c_21 => ?_)
        · skip
          first
            | refine kinc (q := 3) hx hb dX4_writersOf_40 hl rfl (by decide) (kp_4_3 rfl) (fun ls hl => ?_)
            | refine kincG (q := 3) hx hb dX4_writersOf_40 hl rfl (by decide) (kp_4_3 rfl) (fun ls hl => ?_)
          refine lv_goto (tgt := 4) hx hb dX4_writersOf_43 (by decide) ?_
          exact ih_4 _ _ _ _ _ (by omega) (by omega) (by first | exact cn_p iv_1 (if_pos (⟨c_21, c_34⟩)) | exact cn_z iv_1 (if_neg (fun z => c_21 z.1)) | exact cn_z iv_1 (if_neg (fun z => c_34 z.2))) hP hS (lv_sub hl [0,1,2,3] rfl)
        · skip
          refine lv_aload_n hx hb dX4_writersOf_24 rfl (lv_at hl 0 rfl) ?_
          refine kget X hP (oS (by first | assumption | omega)) g_X4_19 rfl dX4_writersOf_25 ?_
          refine lv_iload_n hx hb dX4_writersOf_28 rfl (lv_at hl 3 rfl) ?_
          refine kaald X hP (qR (by first | assumption | omega)) (by first | assumption | omega) rfl dX4_writersOf_29 ?_
          refine lv_iload_n hx hb dX4_writersOf_30 rfl (lv_at hl 1 rfl) ?_
          refine kcV X hP hS (c_X3_hasWrite l hI (by first | assumption | omega) (by first | assumption | omega)) (oR (by first | assumption | omega) (by first | assumption | omega)) v_X4_86 ⟨Nat.le_of_ble_eq_true rfl, Nat.le_of_ble_eq_true rfl, rfl, rfl⟩ rfl rfl (Nat.le_of_ble_eq_true rfl) hl.1 ⟨Nat.zero_le _, Nat.zero_le _⟩ dX4_writersOf_31 (fun r_31 G_31 H locs hR hP hS => ?_)
          obtain ⟨rfl, hG_31⟩ := hR
          rw [hG_31] at hP
          clear hG_31
          first
            | refine kif_eq (tgt := 40) hx hb dX4_writersOf_34 (by decide) (fun c_34 => ?_) (fun c_34 => ?_)
            | refine lv_if_eq (tgt := 40) hx hb dX4_writersOf_34 (by decide) (fun c_34 => ?_) (fun c_34 => ?_)
          · skip
            first
              | refine kinc (q := 3) hx hb dX4_writersOf_40 hl rfl (by decide) (kp_4_3 rfl) (fun ls hl => ?_)
              | refine kincG (q := 3) hx hb dX4_writersOf_40 hl rfl (by decide) (kp_4_3 rfl) (fun ls hl => ?_)
            refine lv_goto (tgt := 4) hx hb dX4_writersOf_43 (by decide) ?_
            exact ih_4 _ _ _ _ _ (by omega) (by omega) (by first | exact cn_p iv_1 (if_pos (⟨c_21, c_34⟩)) | exact cn_z iv_1 (if_neg (fun z => c_21 z.1)) | exact cn_z iv_1 (if_neg (fun z => c_34 z.2))) hP hS (lv_sub hl [0,1,2,3] rfl)
          · skip
            first
              | refine kinc (q := 2) hx hb dX4_writersOf_37 hl rfl (by decide) (kp_4_2 rfl) (fun ls hl => ?_)
              | refine kincG (q := 2) hx hb dX4_writersOf_37 hl rfl (by decide) (kp_4_2 rfl) (fun ls hl => ?_)
            first
              | refine kinc (q := 3) hx hb dX4_writersOf_40 hl rfl (by decide) (kp_4_3 rfl) (fun ls hl => ?_)
              | refine kincG (q := 3) hx hb dX4_writersOf_40 hl rfl (by decide) (kp_4_3 rfl) (fun ls hl => ?_)
            refine lv_goto (tgt := 4) hx hb dX4_writersOf_43 (by decide) ?_
            exact ih_4 _ _ _ _ _ (by omega) (by omega) (by first | exact cn_p iv_1 (if_pos (⟨c_21, c_34⟩)) | exact cn_z iv_1 (if_neg (fun z => c_21 z.1)) | exact cn_z iv_1 (if_neg (fun z => c_34 z.2))) hP hS (lv_sub hl [0,1,2,3] rfl)
  exact lp_4 _ 0 0 _ _ _ (Nat.lt_succ_self _) (Nat.zero_le _) (rfl) hP hS (lv_sub hl [0,1,2,3] rfl)

set_option maxHeartbeats 4000000 in
set_option maxRecDepth 100000 in
theorem c_X4_seersOf (l : Launch) {D : va_G} {τ : Nat → ClassId} {ad : Nat → Nat} (hI : kInj ad) {G : Nat → Nat → Int32} {j n c P : Nat} {q : Int32} (hj : j < 7) (hn : G (sB j) 6 = nI n) (hn4 : n ≤ 40) (hc : c < 12) (hpl : G (cB j c) 2 = nI P) (hp10 : P ≤ 10) : kM l yX4_seersOf cX4_seersOf 6 (some .int) { frames := 1, cells := 0, slots := 0, locals := 22 } D τ ad [.ref (ad (sB j)), .ref (ad (cB j c)), .int q] G (fun v G' => v = nI (cn (fun i => if G (rN j i) 1 = 0 ∧ pf (G (cM j c)) (G (rN j i) 2) 0 P = q then 1 else 0) n) ∧ G' = G) := by
  refine kMet (own := RX4) (by decide) rfl (Nat.le_of_ble_eq_true rfl) ?_
  intro p9 e9 s9 m9 args9 below9 meth9 c9 Q9 X hx hb hP hS hret ls hl
  have hPs := hP
  have hl : lv_has ls 6 [(0, .ref (ad (sB j))), (1, .ref (ad (cB j c))), (2, .int q)] := hl
  refine lv_iconst (v := nI 0) hx hb dX4_seersOf_0 (by decide) ?_
  refine kist hx hb dX4_seersOf_1 rfl hl (by decide) (kp_3_3 rfl) (fun ls hl => ?_)
  refine lv_iconst (v := nI 0) hx hb dX4_seersOf_2 (by decide) ?_
  refine kistW hx hb dX4_seersOf_3 hl (by decide) (kp_4_4 rfl) (fun ls hl => ?_)
  have lp_5 : ∀ (d : Nat) (i x : Nat) (H : Heap) (locs : List Loc) (ls : Array Slot), (n - i) < d → (i ≤ n) → (x = cn (fun i => if G (rN j i) 1 = 0 ∧ pf (G (cM j c)) (G (rN j i) 2) 0 P = q then 1 else 0) i) → va_P D vwCl (kW τ ad G) H → va_S (kAd ad) s9.heap H locs → lv_has ls 6 [(0, .ref (ad (sB j))), (1, .ref (ad (cB j c))), (2, .int q), (3, .int (nI x)), (4, .int (nI i))] → W p9 l e9 { frames := 1, cells := 0, slots := 0, locals := 22 } s9 m9 args9 below9 meth9 c9 H locs 0 0 Q9 (F0 m9 5 ls []) := by
    intro d
    induction d with
    | zero => exact fun _ _ _ _ _ hd => absurd hd (Nat.not_lt_zero _)
    | succ d ih_5 =>
      intro i x H locs ls hd iv_0 iv_1 hP hS hl
      refine lv_iload hx hb dX4_seersOf_5 (lv_at hl 4 rfl) ?_
      refine lv_aload_n hx hb dX4_seersOf_7 rfl (lv_at hl 0 rfl) ?_
      refine kget X hP (oS (by first | assumption | omega)) g_X4_44 (congrArg (fun z => some (Value.int z)) hn) dX4_seersOf_8 ?_
      first
        | refine kic_ge (tgt := 53) hx hb dX4_seersOf_11 (by decide) (by with_reducible rfl) (by with_reducible rfl) (by omega) (by omega) (fun c_11 => ?_) (fun c_11 => ?_)
        | refine lv_icmp_ge (tgt := 53) hx hb dX4_seersOf_11 (by decide) (fun c_11 => ?_) (fun c_11 => ?_)
      · skip
        refine lv_iload_n hx hb dX4_seersOf_53 rfl (lv_at hl 3 rfl) ?_
        exact hret _ _ _ _ _ _ (⟨congrArg nI (iv_1.trans (by rw [show i = n by omega])), rfl⟩) hP hS dX4_seersOf_54
      · skip
        refine lv_aload_n hx hb dX4_seersOf_14 rfl (lv_at hl 0 rfl) ?_
        refine kget X hP (oS (by first | assumption | omega)) g_X4_19 rfl dX4_seersOf_15 ?_
        refine lv_iload hx hb dX4_seersOf_18 (lv_at hl 4 rfl) ?_
        refine kaald X hP (qR (by first | assumption | omega)) (by first | assumption | omega) rfl dX4_seersOf_20 ?_
        refine kastW hx hb dX4_seersOf_21 hl (by decide) (kp_5_5 rfl) (fun ls hl => ?_)
        refine lv_aload hx hb dX4_seersOf_23 (lv_at hl 5 rfl) ?_
        refine kcV X hP hS (c_X3_isOpen l hI (by first | assumption | omega) (by first | assumption | omega)) (oR (by first | assumption | omega) (by first | assumption | omega)) v_X4_83 ⟨Nat.le_of_ble_eq_true rfl, Nat.le_of_ble_eq_true rfl, rfl, rfl⟩ rfl rfl (Nat.le_of_ble_eq_true rfl) hl.1 ⟨Nat.zero_le _, Nat.zero_le _⟩ dX4_seersOf_25 (fun r_25 G_25 H locs hR hP hS => ?_)
        obtain ⟨rfl, hG_25⟩ := hR
        rw [hG_25] at hP
        clear hG_25
        first
          | refine kif_eq (tgt := 47) hx hb dX4_seersOf_28 (by decide) (fun c_28 => ?_) (fun c_28 => ?_)
          | refine lv_if_eq (tgt := 47) hx hb dX4_seersOf_28 (by decide) (fun c_28 => ?_) (fun c_28 => ?_)
        · skip
          first
            | refine kinc (q := 4) hx hb dX4_seersOf_47 hl rfl (by decide) (kp_6_4 rfl) (fun ls hl => ?_)
            | refine kincG (q := 4) hx hb dX4_seersOf_47 hl rfl (by decide) (kp_6_4 rfl) (fun ls hl => ?_)
          refine lv_goto (tgt := 5) hx hb dX4_seersOf_50 (by decide) ?_
          exact ih_5 _ _ _ _ _ (by omega) (by omega) (by first | exact cn_p iv_1 (if_pos (⟨c_28, c_41⟩)) | exact cn_z iv_1 (if_neg (fun z => c_28 z.1)) | exact cn_z iv_1 (if_neg (fun z => c_41 z.2))) hP hS (lv_sub hl [0,1,2,3,4] rfl)
        · skip
          refine lv_aload_n hx hb dX4_seersOf_31 rfl (lv_at hl 1 rfl) ?_
          refine lv_aload hx hb dX4_seersOf_32 (lv_at hl 5 rfl) ?_
          refine kget X hP (oR (by first | assumption | omega) (by first | assumption | omega)) g_X4_90 rfl dX4_seersOf_34 ?_
          refine kcV X hP hS (c_X0_placeSeenAt l hI (x := G (rN j i) 2) hj hc hpl hp10) (oC (by first | assumption | omega) (by first | assumption | omega)) v_X4_91 ⟨Nat.le_of_ble_eq_true rfl, Nat.le_of_ble_eq_true rfl, rfl, rfl⟩ rfl rfl (Nat.le_of_ble_eq_true rfl) hl.1 ⟨Nat.zero_le _, Nat.zero_le _⟩ dX4_seersOf_37 (fun r_37 G_37 H locs hR hP hS => ?_)
          obtain ⟨rfl, hG_37⟩ := hR
          rw [hG_37] at hP
          clear hG_37
          refine lv_iload_n hx hb dX4_seersOf_40 rfl (lv_at hl 2 rfl) ?_
          first
            | refine kic_ne (tgt := 47) hx hb dX4_seersOf_41 (by decide) (by with_reducible rfl) (by with_reducible rfl) (by omega) (by omega) (fun c_41 => ?_) (fun c_41 => ?_)
            | refine lv_icmp_ne (tgt := 47) hx hb dX4_seersOf_41 (by decide) (fun c_41 => ?_) (fun c_41 => ?_)
          · skip
            first
              | refine kinc (q := 4) hx hb dX4_seersOf_47 hl rfl (by decide) (kp_6_4 rfl) (fun ls hl => ?_)
              | refine kincG (q := 4) hx hb dX4_seersOf_47 hl rfl (by decide) (kp_6_4 rfl) (fun ls hl => ?_)
            refine lv_goto (tgt := 5) hx hb dX4_seersOf_50 (by decide) ?_
            exact ih_5 _ _ _ _ _ (by omega) (by omega) (by first | exact cn_p iv_1 (if_pos (⟨c_28, c_41⟩)) | exact cn_z iv_1 (if_neg (fun z => c_28 z.1)) | exact cn_z iv_1 (if_neg (fun z => c_41 z.2))) hP hS (lv_sub hl [0,1,2,3,4] rfl)
          · skip
            first
              | refine kinc (q := 3) hx hb dX4_seersOf_44 hl rfl (by decide) (kp_6_3 rfl) (fun ls hl => ?_)
              | refine kincG (q := 3) hx hb dX4_seersOf_44 hl rfl (by decide) (kp_6_3 rfl) (fun ls hl => ?_)
            first
              | refine kinc (q := 4) hx hb dX4_seersOf_47 hl rfl (by decide) (kp_6_4 rfl) (fun ls hl => ?_)
              | refine kincG (q := 4) hx hb dX4_seersOf_47 hl rfl (by decide) (kp_6_4 rfl) (fun ls hl => ?_)
            refine lv_goto (tgt := 5) hx hb dX4_seersOf_50 (by decide) ?_
            exact ih_5 _ _ _ _ _ (by omega) (by omega) (by first | exact cn_p iv_1 (if_pos (⟨c_28, c_41⟩)) | exact cn_z iv_1 (if_neg (fun z => c_28 z.1)) | exact cn_z iv_1 (if_neg (fun z => c_41 z.2))) hP hS (lv_sub hl [0,1,2,3,4] rfl)
  exact lp_5 _ 0 0 _ _ _ (Nat.lt_succ_self _) (Nat.zero_le _) (rfl) hP hS (lv_sub hl [0,1,2,3,4] rfl)

set_option maxHeartbeats 4000000 in
set_option maxRecDepth 100000 in
theorem c_X4_payersOf (l : Launch) {D : va_G} {τ : Nat → ClassId} {ad : Nat → Nat} (hI : kInj ad) {G : Nat → Nat → Int32} {j n c P : Nat} {q : Int32} (hj : j < 7) (hn : G (sB j) 6 = nI n) (hn4 : n ≤ 40) (hc : c < 12) (hpl : G (cB j c) 2 = nI P) (hp10 : P ≤ 10) : kM l yX4_payersOf cX4_payersOf 6 (some .int) { frames := 1, cells := 0, slots := 0, locals := 22 } D τ ad [.ref (ad (sB j)), .ref (ad (cB j c)), .int q] G (fun v G' => v = nI (cn (fun i => if (G (rN j i) 1 = 0 ∧ G (rN j i) 6 = 0) ∧ pf (G (cM j c)) (G (rN j i) 2) 0 P = q then 1 else 0) n) ∧ G' = G) := by
  refine kMet (own := RX4) (by decide) rfl (Nat.le_of_ble_eq_true rfl) ?_
  intro p9 e9 s9 m9 args9 below9 meth9 c9 Q9 X hx hb hP hS hret ls hl
  have hPs := hP
  have hl : lv_has ls 6 [(0, .ref (ad (sB j))), (1, .ref (ad (cB j c))), (2, .int q)] := hl
  refine lv_iconst (v := nI 0) hx hb dX4_payersOf_0 (by decide) ?_
  refine kist hx hb dX4_payersOf_1 rfl hl (by decide) (kp_3_3 rfl) (fun ls hl => ?_)
  refine lv_iconst (v := nI 0) hx hb dX4_payersOf_2 (by decide) ?_
  refine kistW hx hb dX4_payersOf_3 hl (by decide) (kp_4_4 rfl) (fun ls hl => ?_)
  have lp_5 : ∀ (d : Nat) (i x : Nat) (H : Heap) (locs : List Loc) (ls : Array Slot), (n - i) < d → (i ≤ n) → (x = cn (fun i => if (G (rN j i) 1 = 0 ∧ G (rN j i) 6 = 0) ∧ pf (G (cM j c)) (G (rN j i) 2) 0 P = q then 1 else 0) i) → va_P D vwCl (kW τ ad G) H → va_S (kAd ad) s9.heap H locs → lv_has ls 6 [(0, .ref (ad (sB j))), (1, .ref (ad (cB j c))), (2, .int q), (3, .int (nI x)), (4, .int (nI i))] → W p9 l e9 { frames := 1, cells := 0, slots := 0, locals := 22 } s9 m9 args9 below9 meth9 c9 H locs 0 0 Q9 (F0 m9 5 ls []) := by
    intro d
    induction d with
    | zero => exact fun _ _ _ _ _ hd => absurd hd (Nat.not_lt_zero _)
    | succ d ih_5 =>
      intro i x H locs ls hd iv_0 iv_1 hP hS hl
      refine lv_iload hx hb dX4_payersOf_5 (lv_at hl 4 rfl) ?_
      refine lv_aload_n hx hb dX4_payersOf_7 rfl (lv_at hl 0 rfl) ?_
      refine kget X hP (oS (by first | assumption | omega)) g_X4_44 (congrArg (fun z => some (Value.int z)) hn) dX4_payersOf_8 ?_
      first
        | refine kic_ge (tgt := 53) hx hb dX4_payersOf_11 (by decide) (by with_reducible rfl) (by with_reducible rfl) (by omega) (by omega) (fun c_11 => ?_) (fun c_11 => ?_)
        | refine lv_icmp_ge (tgt := 53) hx hb dX4_payersOf_11 (by decide) (fun c_11 => ?_) (fun c_11 => ?_)
      · skip
        refine lv_iload_n hx hb dX4_payersOf_53 rfl (lv_at hl 3 rfl) ?_
        exact hret _ _ _ _ _ _ (⟨congrArg nI (iv_1.trans (by rw [show i = n by omega])), rfl⟩) hP hS dX4_payersOf_54
      · skip
        refine lv_aload_n hx hb dX4_payersOf_14 rfl (lv_at hl 0 rfl) ?_
        refine kget X hP (oS (by first | assumption | omega)) g_X4_19 rfl dX4_payersOf_15 ?_
        refine lv_iload hx hb dX4_payersOf_18 (lv_at hl 4 rfl) ?_
        refine kaald X hP (qR (by first | assumption | omega)) (by first | assumption | omega) rfl dX4_payersOf_20 ?_
        refine kastW hx hb dX4_payersOf_21 hl (by decide) (kp_5_5 rfl) (fun ls hl => ?_)
        refine lv_aload hx hb dX4_payersOf_23 (lv_at hl 5 rfl) ?_
        refine kcV X hP hS (c_X3_paysRent l hI (by first | assumption | omega) (by first | assumption | omega)) (oR (by first | assumption | omega) (by first | assumption | omega)) v_X4_95 ⟨Nat.le_of_ble_eq_true rfl, Nat.le_of_ble_eq_true rfl, rfl, rfl⟩ rfl rfl (Nat.le_of_ble_eq_true rfl) hl.1 ⟨Nat.zero_le _, Nat.zero_le _⟩ dX4_payersOf_25 (fun r_25 G_25 H locs hR hP hS => ?_)
        obtain ⟨rfl, hG_25⟩ := hR
        rw [hG_25] at hP
        clear hG_25
        first
          | refine kif_eq (tgt := 47) hx hb dX4_payersOf_28 (by decide) (fun c_28 => ?_) (fun c_28 => ?_)
          | refine lv_if_eq (tgt := 47) hx hb dX4_payersOf_28 (by decide) (fun c_28 => ?_) (fun c_28 => ?_)
        · skip
          first
            | refine kinc (q := 4) hx hb dX4_payersOf_47 hl rfl (by decide) (kp_6_4 rfl) (fun ls hl => ?_)
            | refine kincG (q := 4) hx hb dX4_payersOf_47 hl rfl (by decide) (kp_6_4 rfl) (fun ls hl => ?_)
          refine lv_goto (tgt := 5) hx hb dX4_payersOf_50 (by decide) ?_
          exact ih_5 _ _ _ _ _ (by omega) (by omega) (by first | exact cn_p iv_1 (if_pos (⟨c_28, c_41⟩)) | exact cn_z iv_1 (if_neg (fun z => c_28 z.1)) | exact cn_z iv_1 (if_neg (fun z => c_41 z.2))) hP hS (lv_sub hl [0,1,2,3,4] rfl)
        · skip
          refine lv_aload_n hx hb dX4_payersOf_31 rfl (lv_at hl 1 rfl) ?_
          refine lv_aload hx hb dX4_payersOf_32 (lv_at hl 5 rfl) ?_
          refine kget X hP (oR (by first | assumption | omega) (by first | assumption | omega)) g_X4_90 rfl dX4_payersOf_34 ?_
          refine kcV X hP hS (c_X0_placeSeenAt l hI (x := G (rN j i) 2) hj hc hpl hp10) (oC (by first | assumption | omega) (by first | assumption | omega)) v_X4_91 ⟨Nat.le_of_ble_eq_true rfl, Nat.le_of_ble_eq_true rfl, rfl, rfl⟩ rfl rfl (Nat.le_of_ble_eq_true rfl) hl.1 ⟨Nat.zero_le _, Nat.zero_le _⟩ dX4_payersOf_37 (fun r_37 G_37 H locs hR hP hS => ?_)
          obtain ⟨rfl, hG_37⟩ := hR
          rw [hG_37] at hP
          clear hG_37
          refine lv_iload_n hx hb dX4_payersOf_40 rfl (lv_at hl 2 rfl) ?_
          first
            | refine kic_ne (tgt := 47) hx hb dX4_payersOf_41 (by decide) (by with_reducible rfl) (by with_reducible rfl) (by omega) (by omega) (fun c_41 => ?_) (fun c_41 => ?_)
            | refine lv_icmp_ne (tgt := 47) hx hb dX4_payersOf_41 (by decide) (fun c_41 => ?_) (fun c_41 => ?_)
          · skip
            first
              | refine kinc (q := 4) hx hb dX4_payersOf_47 hl rfl (by decide) (kp_6_4 rfl) (fun ls hl => ?_)
              | refine kincG (q := 4) hx hb dX4_payersOf_47 hl rfl (by decide) (kp_6_4 rfl) (fun ls hl => ?_)
            refine lv_goto (tgt := 5) hx hb dX4_payersOf_50 (by decide) ?_
            exact ih_5 _ _ _ _ _ (by omega) (by omega) (by first | exact cn_p iv_1 (if_pos (⟨c_28, c_41⟩)) | exact cn_z iv_1 (if_neg (fun z => c_28 z.1)) | exact cn_z iv_1 (if_neg (fun z => c_41 z.2))) hP hS (lv_sub hl [0,1,2,3,4] rfl)
          · skip
            first
              | refine kinc (q := 3) hx hb dX4_payersOf_44 hl rfl (by decide) (kp_6_3 rfl) (fun ls hl => ?_)
              | refine kincG (q := 3) hx hb dX4_payersOf_44 hl rfl (by decide) (kp_6_3 rfl) (fun ls hl => ?_)
            first
              | refine kinc (q := 4) hx hb dX4_payersOf_47 hl rfl (by decide) (kp_6_4 rfl) (fun ls hl => ?_)
              | refine kincG (q := 4) hx hb dX4_payersOf_47 hl rfl (by decide) (kp_6_4 rfl) (fun ls hl => ?_)
            refine lv_goto (tgt := 5) hx hb dX4_payersOf_50 (by decide) ?_
            exact ih_5 _ _ _ _ _ (by omega) (by omega) (by first | exact cn_p iv_1 (if_pos (⟨c_28, c_41⟩)) | exact cn_z iv_1 (if_neg (fun z => c_28 z.1)) | exact cn_z iv_1 (if_neg (fun z => c_41 z.2))) hP hS (lv_sub hl [0,1,2,3,4] rfl)
  exact lp_5 _ 0 0 _ _ _ (Nat.lt_succ_self _) (Nat.zero_le _) (rfl) hP hS (lv_sub hl [0,1,2,3,4] rfl)

set_option maxHeartbeats 4000000 in
set_option maxRecDepth 100000 in
theorem c_X4_placesSeen (l : Launch) {D : va_G} {τ : Nat → ClassId} {ad : Nat → Nat} (hI : kInj ad) {G : Nat → Nat → Int32} {j n c P : Nat} {q : Int32} (hj : j < 7) (hn : G (sB j) 6 = nI n) (hn4 : n ≤ 40) (hc : c < 12) (hpl : G (cB j c) 2 = nI P) (hp10 : P ≤ 10) : kM l yX4_placesSeen cX4_placesSeen 6 (some .int) { frames := 1, cells := 0, slots := 0, locals := 22 } D τ ad [.ref (ad (sB j)), .ref (ad (cB j c)), .int q] G (fun v G' => v = so (psB G j c P q) n ∧ G' = G) := by
  refine kMet (own := RX4) (by decide) rfl (Nat.le_of_ble_eq_true rfl) ?_
  intro p9 e9 s9 m9 args9 below9 meth9 c9 Q9 X hx hb hP hS hret ls hl
  have hPs := hP
  have hl : lv_has ls 6 [(0, .ref (ad (sB j))), (1, .ref (ad (cB j c))), (2, .int q)] := hl
  refine lv_iconst (v := nI 0) hx hb dX4_placesSeen_0 (by decide) ?_
  refine kist hx hb dX4_placesSeen_1 rfl hl (by decide) (kp_3_3 rfl) (fun ls hl => ?_)
  refine lv_iconst (v := nI 0) hx hb dX4_placesSeen_2 (by decide) ?_
  refine kistW hx hb dX4_placesSeen_3 hl (by decide) (kp_4_4 rfl) (fun ls hl => ?_)
  have lp_5 : ∀ (d : Nat) (i : Nat) (x : Int32) (H : Heap) (locs : List Loc) (ls : Array Slot), (n - i) < d → (i ≤ n) → (x = so (psB G j c P q) i) → va_P D vwCl (kW τ ad G) H → va_S (kAd ad) s9.heap H locs → lv_has ls 6 [(0, .ref (ad (sB j))), (1, .ref (ad (cB j c))), (2, .int q), (3, .int x), (4, .int (nI i))] → W p9 l e9 { frames := 1, cells := 0, slots := 0, locals := 22 } s9 m9 args9 below9 meth9 c9 H locs 0 0 Q9 (F0 m9 5 ls []) := by
    intro d
    induction d with
    | zero => exact fun _ _ _ _ _ hd => absurd hd (Nat.not_lt_zero _)
    | succ d ih_5 =>
      intro i x H locs ls hd iv_0 iv_1 hP hS hl
      refine lv_iload hx hb dX4_placesSeen_5 (lv_at hl 4 rfl) ?_
      refine lv_aload_n hx hb dX4_placesSeen_7 rfl (lv_at hl 0 rfl) ?_
      refine kget X hP (oS (by first | assumption | omega)) g_X4_44 (congrArg (fun z => some (Value.int z)) hn) dX4_placesSeen_8 ?_
      first
        | refine kic_ge (tgt := 68) hx hb dX4_placesSeen_11 (by decide) (by with_reducible rfl) (by with_reducible rfl) (by omega) (by omega) (fun c_11 => ?_) (fun c_11 => ?_)
        | refine lv_icmp_ge (tgt := 68) hx hb dX4_placesSeen_11 (by decide) (fun c_11 => ?_) (fun c_11 => ?_)
      · skip
        refine lv_iload_n hx hb dX4_placesSeen_68 rfl (lv_at hl 3 rfl) ?_
        exact hret _ _ _ _ _ _ (⟨iv_1.trans (by rw [show i = n by omega]), rfl⟩) hP hS dX4_placesSeen_69
      · skip
        refine lv_iload hx hb dX4_placesSeen_14 (lv_at hl 4 rfl) ?_
        refine lv_iload_n hx hb dX4_placesSeen_16 rfl (lv_at hl 2 rfl) ?_
        first
          | refine kic_eq (tgt := 62) hx hb dX4_placesSeen_17 (by decide) (by with_reducible rfl) (by with_reducible rfl) (by omega) (by omega) (fun c_17 => ?_) (fun c_17 => ?_)
          | refine lv_icmp_eq (tgt := 62) hx hb dX4_placesSeen_17 (by decide) (fun c_17 => ?_) (fun c_17 => ?_)
        · skip
          first
            | refine kinc (q := 4) hx hb dX4_placesSeen_62 hl rfl (by decide) (kp_5_4 rfl) (fun ls hl => ?_)
            | refine kincG (q := 4) hx hb dX4_placesSeen_62 hl rfl (by decide) (kp_5_4 rfl) (fun ls hl => ?_)
          refine lv_goto (tgt := 5) hx hb dX4_placesSeen_65 (by decide) ?_
          exact ih_5 _ _ _ _ _ (by omega) (by omega) (so_z iv_1 (if_neg (fun z => z.1 c_17))) hP hS (lv_sub hl [0,1,2,3,4] rfl)
        · skip
          refine lv_aload_n hx hb dX4_placesSeen_20 rfl (lv_at hl 0 rfl) ?_
          refine kget X hP (oS (by first | assumption | omega)) g_X4_19 rfl dX4_placesSeen_21 ?_
          refine lv_iload hx hb dX4_placesSeen_24 (lv_at hl 4 rfl) ?_
          refine kaald X hP (qR (by first | assumption | omega)) (by first | assumption | omega) rfl dX4_placesSeen_26 ?_
          refine kcV X hP hS (c_X3_isOpen l hI (by first | assumption | omega) (by first | assumption | omega)) (oR (by first | assumption | omega) (by first | assumption | omega)) v_X4_83 ⟨Nat.le_of_ble_eq_true rfl, Nat.le_of_ble_eq_true rfl, rfl, rfl⟩ rfl rfl (Nat.le_of_ble_eq_true rfl) hl.1 ⟨Nat.zero_le _, Nat.zero_le _⟩ dX4_placesSeen_27 (fun r_27 G_27 H locs hR hP hS => ?_)
          obtain ⟨rfl, hG_27⟩ := hR
          rw [hG_27] at hP
          clear hG_27
          first
            | refine kif_eq (tgt := 62) hx hb dX4_placesSeen_30 (by decide) (fun c_30 => ?_) (fun c_30 => ?_)
            | refine lv_if_eq (tgt := 62) hx hb dX4_placesSeen_30 (by decide) (fun c_30 => ?_) (fun c_30 => ?_)
          · skip
            first
              | refine kinc (q := 4) hx hb dX4_placesSeen_62 hl rfl (by decide) (kp_5_4 rfl) (fun ls hl => ?_)
              | refine kincG (q := 4) hx hb dX4_placesSeen_62 hl rfl (by decide) (kp_5_4 rfl) (fun ls hl => ?_)
            refine lv_goto (tgt := 5) hx hb dX4_placesSeen_65 (by decide) ?_
            exact ih_5 _ _ _ _ _ (by omega) (by omega) (so_z iv_1 (if_neg (fun z => c_30 z.2.1))) hP hS (lv_sub hl [0,1,2,3,4] rfl)
          · skip
            refine lv_aload_n hx hb dX4_placesSeen_33 rfl (lv_at hl 1 rfl) ?_
            refine lv_aload_n hx hb dX4_placesSeen_34 rfl (lv_at hl 0 rfl) ?_
            refine kget X hP (oS (by first | assumption | omega)) g_X4_19 rfl dX4_placesSeen_35 ?_
            refine lv_iload hx hb dX4_placesSeen_38 (lv_at hl 4 rfl) ?_
            refine kaald X hP (qR (by first | assumption | omega)) (by first | assumption | omega) rfl dX4_placesSeen_40 ?_
            refine kget X hP (oR (by first | assumption | omega) (by first | assumption | omega)) g_X4_90 rfl dX4_placesSeen_41 ?_
            refine kcV X hP hS (c_X0_placeSeenAt l hI (x := G (rN j i) 2) hj hc hpl hp10) (oC (by first | assumption | omega) (by first | assumption | omega)) v_X4_91 ⟨Nat.le_of_ble_eq_true rfl, Nat.le_of_ble_eq_true rfl, rfl, rfl⟩ rfl rfl (Nat.le_of_ble_eq_true rfl) hl.1 ⟨Nat.zero_le _, Nat.zero_le _⟩ dX4_placesSeen_44 (fun r_44 G_44 H locs hR hP hS => ?_)
            obtain ⟨rfl, hG_44⟩ := hR
            rw [hG_44] at hP
            clear hG_44
            refine kistW hx hb dX4_placesSeen_47 hl (by decide) (kp_5_5 rfl) (fun ls hl => ?_)
            refine lv_iload hx hb dX4_placesSeen_49 (lv_at hl 5 rfl) ?_
            refine lv_iconst (v := (-1)) hx hb dX4_placesSeen_51 (by decide) ?_
            first
              | refine kic_eq (tgt := 62) hx hb dX4_placesSeen_52 (by decide) (by with_reducible rfl) (by with_reducible rfl) (by omega) (by omega) (fun c_52 => ?_) (fun c_52 => ?_)
              | refine lv_icmp_eq (tgt := 62) hx hb dX4_placesSeen_52 (by decide) (fun c_52 => ?_) (fun c_52 => ?_)
            · skip
              first
                | refine kinc (q := 4) hx hb dX4_placesSeen_62 hl rfl (by decide) (kp_6_4 rfl) (fun ls hl => ?_)
                | refine kincG (q := 4) hx hb dX4_placesSeen_62 hl rfl (by decide) (kp_6_4 rfl) (fun ls hl => ?_)
              refine lv_goto (tgt := 5) hx hb dX4_placesSeen_65 (by decide) ?_
              exact ih_5 _ _ _ _ _ (by omega) (by omega) (so_z iv_1 (if_neg (fun z => z.2.2 c_52))) hP hS (lv_sub hl [0,1,2,3,4] rfl)
            · skip
              refine lv_iload_n hx hb dX4_placesSeen_55 rfl (lv_at hl 3 rfl) ?_
              refine lv_iconst (v := nI 1) hx hb dX4_placesSeen_56 (by decide) ?_
              refine lv_iload hx hb dX4_placesSeen_57 (lv_at hl 5 rfl) ?_
              refine lv_ishl hx hb dX4_placesSeen_59 ?_
              refine lv_ior hx hb dX4_placesSeen_60 ?_
              refine kist hx hb dX4_placesSeen_61 rfl hl (by decide) (kp_6_3 rfl) (fun ls hl => ?_)
              first
                | refine kinc (q := 4) hx hb dX4_placesSeen_62 hl rfl (by decide) (kp_6_4 rfl) (fun ls hl => ?_)
                | refine kincG (q := 4) hx hb dX4_placesSeen_62 hl rfl (by decide) (kp_6_4 rfl) (fun ls hl => ?_)
              refine lv_goto (tgt := 5) hx hb dX4_placesSeen_65 (by decide) ?_
              exact ih_5 _ _ _ _ _ (by omega) (by omega) (so_p iv_1 (if_pos (And.intro c_17 (And.intro c_30 c_52)))) hP hS (lv_sub hl [0,1,2,3,4] rfl)
  exact lp_5 _ 0 0 _ _ _ (Nat.lt_succ_self _) (Nat.zero_le _) (rfl) hP hS (lv_sub hl [0,1,2,3,4] rfl)

set_option maxHeartbeats 4000000 in
set_option maxRecDepth 100000 in
theorem c_X4_oldVersions (l : Launch) {D : va_G} {τ : Nat → ClassId} {ad : Nat → Nat} (hI : kInj ad) {G : Nat → Nat → Int32} {j : Nat} {P : Nat → Nat} (hj : j < 7) (hp : ∀ c, c < 12 → G (cB j c) 2 = nI (P c) ∧ 1 ≤ P c) : kM l yX4_oldVersions cX4_oldVersions 3 (some .int) { frames := 0, cells := 0, slots := 0, locals := 0 } D τ ad [.ref (ad (sB j))] G (fun v G' => v = nI (cn (fun c => P c - 1) 12) ∧ G' = G) := by
  refine kMet (own := RX4) (by decide) rfl (Nat.le_of_ble_eq_true rfl) ?_
  intro p9 e9 s9 m9 args9 below9 meth9 c9 Q9 X hx hb hP hS hret ls hl
  have hPs := hP
  have hl : lv_has ls 3 [(0, .ref (ad (sB j)))] := hl
  refine lv_iconst (v := nI 0) hx hb dX4_oldVersions_0 (by decide) ?_
  refine kist hx hb dX4_oldVersions_1 rfl hl (by decide) (kp_1_1 rfl) (fun ls hl => ?_)
  refine lv_iconst (v := nI 0) hx hb dX4_oldVersions_2 (by decide) ?_
  refine kist hx hb dX4_oldVersions_3 rfl hl (by decide) (kp_2_2 rfl) (fun ls hl => ?_)
  have lp_4 : ∀ (d : Nat) (i x : Nat) (H : Heap) (locs : List Loc) (ls : Array Slot), (12 - i) < d → (i ≤ 12) → (x = cn (fun c => P c - 1) i) → va_P D vwCl (kW τ ad G) H → va_S (kAd ad) s9.heap H locs → lv_has ls 3 [(0, .ref (ad (sB j))), (1, .int (nI x)), (2, .int (nI i))] → W p9 l e9 { frames := 0, cells := 0, slots := 0, locals := 0 } s9 m9 args9 below9 meth9 c9 H locs 0 0 Q9 (F0 m9 4 ls []) := by
    intro d
    induction d with
    | zero => exact fun _ _ _ _ _ hd => absurd hd (Nat.not_lt_zero _)
    | succ d ih_4 =>
      intro i x H locs ls hd iv_0 iv_1 hP hS hl
      refine lv_iload_n hx hb dX4_oldVersions_4 rfl (lv_at hl 2 rfl) ?_
      refine lv_bipush (v := nI 12) hx hb dX4_oldVersions_5 (by decide) ?_
      first
        | refine kic_ge (tgt := 30) hx hb dX4_oldVersions_7 (by decide) (by with_reducible rfl) (by with_reducible rfl) (by omega) (by omega) (fun c_7 => ?_) (fun c_7 => ?_)
        | refine lv_icmp_ge (tgt := 30) hx hb dX4_oldVersions_7 (by decide) (fun c_7 => ?_) (fun c_7 => ?_)
      · skip
        refine lv_iload_n hx hb dX4_oldVersions_30 rfl (lv_at hl 1 rfl) ?_
        exact hret _ _ _ _ _ _ (⟨congrArg nI (iv_1.trans (by rw [show i = 12 by omega])), rfl⟩) hP hS dX4_oldVersions_31
      · skip
        refine lv_iload_n hx hb dX4_oldVersions_10 rfl (lv_at hl 1 rfl) ?_
        refine lv_aload_n hx hb dX4_oldVersions_11 rfl (lv_at hl 0 rfl) ?_
        refine kget X hP (oS (by first | assumption | omega)) g_X4_11 rfl dX4_oldVersions_12 ?_
        refine lv_iload_n hx hb dX4_oldVersions_15 rfl (lv_at hl 2 rfl) ?_
        refine kaald X hP (qC (by first | assumption | omega)) (by first | assumption | omega) rfl dX4_oldVersions_16 ?_
        refine kget X hP (oC (by first | assumption | omega) (by first | assumption | omega)) g_X4_98 (congrArg (fun z => some (Value.int z)) (hp _ (by omega)).1) dX4_oldVersions_17 ?_
        refine lv_iconst (v := nI 1) hx hb dX4_oldVersions_20 (by decide) ?_
        refine ksub hx hb dX4_oldVersions_21 (by with_reducible rfl) (by with_reducible rfl) (hp _ (by omega)).2 ?_
        first
          | refine kadd hx hb dX4_oldVersions_22 (by with_reducible rfl) (by with_reducible rfl) ?_
          | refine lv_iadd hx hb dX4_oldVersions_22 ?_
        refine kist hx hb dX4_oldVersions_23 rfl hl (by decide) (kp_3_1 rfl) (fun ls hl => ?_)
        first
          | refine kinc (q := 2) hx hb dX4_oldVersions_24 hl rfl (by decide) (kp_3_2 rfl) (fun ls hl => ?_)
          | refine kincG (q := 2) hx hb dX4_oldVersions_24 hl rfl (by decide) (kp_3_2 rfl) (fun ls hl => ?_)
        refine lv_goto (tgt := 4) hx hb dX4_oldVersions_27 (by decide) ?_
        exact ih_4 _ _ _ _ _ (by omega) (by omega) (by rw [iv_1]; rfl) hP hS (lv_sub hl [0,1,2] rfl)
  exact lp_4 _ 0 0 _ _ _ (Nat.lt_succ_self _) (Nat.zero_le _) (rfl) hP hS (lv_sub hl [0,1,2] rfl)

set_option maxHeartbeats 4000000 in
set_option maxRecDepth 100000 in
theorem c_X4_oldVersionsSeenBy (l : Launch) {D : va_G} {τ : Nat → ClassId} {ad : Nat → Nat} (hI : kInj ad) {G : Nat → Nat → Int32} {j r : Nat} {P : Nat → Nat} (hj : j < 7) (hr : r < 40) (hp : ∀ c, c < 12 → G (cB j c) 2 = nI (P c) ∧ P c ≤ 10) : kM l yX4_oldVersionsSeenBy cX4_oldVersionsSeenBy 4 (some .int) { frames := 1, cells := 0, slots := 0, locals := 22 } D τ ad [.ref (ad (sB j)), .ref (ad (rN j r))] G (fun v G' => v = nI (cn (fun c => if 0 < pf (G (cM j c)) (G (rN j r) 2) 0 (P c) then 1 else 0) 12) ∧ G' = G) := by
  refine kMet (own := RX4) (by decide) rfl (Nat.le_of_ble_eq_true rfl) ?_
  intro p9 e9 s9 m9 args9 below9 meth9 c9 Q9 X hx hb hP hS hret ls hl
  have hPs := hP
  have hl : lv_has ls 4 [(0, .ref (ad (sB j))), (1, .ref (ad (rN j r)))] := hl
  refine lv_iconst (v := nI 0) hx hb dX4_oldVersionsSeenBy_0 (by decide) ?_
  refine kist hx hb dX4_oldVersionsSeenBy_1 rfl hl (by decide) (kp_2_2 rfl) (fun ls hl => ?_)
  refine lv_iconst (v := nI 0) hx hb dX4_oldVersionsSeenBy_2 (by decide) ?_
  refine kist hx hb dX4_oldVersionsSeenBy_3 rfl hl (by decide) (kp_3_3 rfl) (fun ls hl => ?_)
  have lp_4 : ∀ (d : Nat) (i x : Nat) (H : Heap) (locs : List Loc) (ls : Array Slot), (12 - i) < d → (i ≤ 12) → (x = cn (fun c => if 0 < pf (G (cM j c)) (G (rN j r) 2) 0 (P c) then 1 else 0) i) → va_P D vwCl (kW τ ad G) H → va_S (kAd ad) s9.heap H locs → lv_has ls 4 [(0, .ref (ad (sB j))), (1, .ref (ad (rN j r))), (2, .int (nI x)), (3, .int (nI i))] → W p9 l e9 { frames := 1, cells := 0, slots := 0, locals := 22 } s9 m9 args9 below9 meth9 c9 H locs 0 0 Q9 (F0 m9 4 ls []) := by
    intro d
    induction d with
    | zero => exact fun _ _ _ _ _ hd => absurd hd (Nat.not_lt_zero _)
    | succ d ih_4 =>
      intro i x H locs ls hd iv_0 iv_1 hP hS hl
      refine lv_iload_n hx hb dX4_oldVersionsSeenBy_4 rfl (lv_at hl 3 rfl) ?_
      refine lv_bipush (v := nI 12) hx hb dX4_oldVersionsSeenBy_5 (by decide) ?_
      first
        | refine kic_ge (tgt := 35) hx hb dX4_oldVersionsSeenBy_7 (by decide) (by with_reducible rfl) (by with_reducible rfl) (by omega) (by omega) (fun c_7 => ?_) (fun c_7 => ?_)
        | refine lv_icmp_ge (tgt := 35) hx hb dX4_oldVersionsSeenBy_7 (by decide) (fun c_7 => ?_) (fun c_7 => ?_)
      · skip
        refine lv_iload_n hx hb dX4_oldVersionsSeenBy_35 rfl (lv_at hl 2 rfl) ?_
        exact hret _ _ _ _ _ _ (⟨congrArg nI (iv_1.trans (by rw [show i = 12 by omega])), rfl⟩) hP hS dX4_oldVersionsSeenBy_36
      · skip
        refine lv_aload_n hx hb dX4_oldVersionsSeenBy_10 rfl (lv_at hl 0 rfl) ?_
        refine kget X hP (oS (by first | assumption | omega)) g_X4_11 rfl dX4_oldVersionsSeenBy_11 ?_
        refine lv_iload_n hx hb dX4_oldVersionsSeenBy_14 rfl (lv_at hl 3 rfl) ?_
        refine kaald X hP (qC (by first | assumption | omega)) (by first | assumption | omega) rfl dX4_oldVersionsSeenBy_15 ?_
        refine lv_aload_n hx hb dX4_oldVersionsSeenBy_16 rfl (lv_at hl 1 rfl) ?_
        refine kget X hP (oR (by first | assumption | omega) (by first | assumption | omega)) g_X4_90 rfl dX4_oldVersionsSeenBy_17 ?_
        refine kcV X hP hS (c_X0_placeSeenAt l hI (x := G (rN j r) 2) hj (by omega) (hp _ (by omega)).1 (hp _ (by omega)).2) (oC hj (by omega)) v_X4_91 ⟨Nat.le_of_ble_eq_true rfl, Nat.le_of_ble_eq_true rfl, rfl, rfl⟩ rfl rfl (Nat.le_of_ble_eq_true rfl) hl.1 ⟨Nat.zero_le _, Nat.zero_le _⟩ dX4_oldVersionsSeenBy_20 (fun r_20 G_20 H locs hR hP hS => ?_)
        obtain ⟨rfl, hG_20⟩ := hR
        rw [hG_20] at hP
        clear hG_20
        refine lv_if_le (tgt := 29) hx hb dX4_oldVersionsSeenBy_23 (by decide) (fun c_23 => ?_) (fun c_23 => ?_)
        · skip
          first
            | refine kinc (q := 3) hx hb dX4_oldVersionsSeenBy_29 hl rfl (by decide) (kp_4_3 rfl) (fun ls hl => ?_)
            | refine kincG (q := 3) hx hb dX4_oldVersionsSeenBy_29 hl rfl (by decide) (kp_4_3 rfl) (fun ls hl => ?_)
          refine lv_goto (tgt := 4) hx hb dX4_oldVersionsSeenBy_32 (by decide) ?_
          exact ih_4 _ _ _ _ _ (by omega) (by omega) (by first | exact cn_p iv_1 (if_pos (Int32.not_le.mp c_23)) | exact cn_z iv_1 (if_neg (Int32.not_lt.mpr c_23))) hP hS (lv_sub hl [0,1,2,3] rfl)
        · skip
          first
            | refine kinc (q := 2) hx hb dX4_oldVersionsSeenBy_26 hl rfl (by decide) (kp_4_2 rfl) (fun ls hl => ?_)
            | refine kincG (q := 2) hx hb dX4_oldVersionsSeenBy_26 hl rfl (by decide) (kp_4_2 rfl) (fun ls hl => ?_)
          first
            | refine kinc (q := 3) hx hb dX4_oldVersionsSeenBy_29 hl rfl (by decide) (kp_4_3 rfl) (fun ls hl => ?_)
            | refine kincG (q := 3) hx hb dX4_oldVersionsSeenBy_29 hl rfl (by decide) (kp_4_3 rfl) (fun ls hl => ?_)
          refine lv_goto (tgt := 4) hx hb dX4_oldVersionsSeenBy_32 (by decide) ?_
          exact ih_4 _ _ _ _ _ (by omega) (by omega) (by first | exact cn_p iv_1 (if_pos (Int32.not_le.mp c_23)) | exact cn_z iv_1 (if_neg (Int32.not_lt.mpr c_23))) hP hS (lv_sub hl [0,1,2,3] rfl)
  exact lp_4 _ 0 0 _ _ _ (Nat.lt_succ_self _) (Nat.zero_le _) (rfl) hP hS (lv_sub hl [0,1,2,3] rfl)

set_option maxHeartbeats 4000000 in
set_option maxRecDepth 100000 in
theorem c_X0_valueSeenAt (l : Launch) {D : va_G} {τ : Nat → ClassId} {ad : Nat → Nat} (hI : kInj ad) {G : Nat → Nat → Int32} {j c P : Nat} {x : Int32} (hj : j < 7) (hc : c < 12) (hpl : G (cB j c) 2 = nI P) (hp10 : P ≤ 10) : kM l yX0_valueSeenAt cX0_valueSeenAt 3 (some .int) { frames := 1, cells := 0, slots := 0, locals := 22 } D τ ad [.ref (ad (cB j c)), .int x] G (fun v G' => v = vsF (G (cV j c)) (G (cM j c)) x P ∧ G' = G) := by
  refine kMet (own := RX0) (by decide) rfl (Nat.le_of_ble_eq_true rfl) ?_
  intro p9 e9 s9 m9 args9 below9 meth9 c9 Q9 X hx hb hP hS hret ls hl
  have hPs := hP
  have hl : lv_has ls 3 [(0, .ref (ad (cB j c))), (1, .int x)] := hl
  refine lv_aload_n hx hb dX0_valueSeenAt_0 rfl (lv_at hl 0 rfl) ?_
  refine lv_iload_n hx hb dX0_valueSeenAt_1 rfl (lv_at hl 1 rfl) ?_
  refine kcV X hP hS (c_X0_placeSeenAt l hI hj hc hpl hp10) (oC (by first | assumption | omega) (by first | assumption | omega)) v_X0_28 ⟨Nat.le_of_ble_eq_true rfl, Nat.le_of_ble_eq_true rfl, rfl, rfl⟩ rfl rfl (Nat.le_of_ble_eq_true rfl) hl.1 ⟨Nat.zero_le _, Nat.zero_le _⟩ dX0_valueSeenAt_2 (fun r_2 G_2 H locs hR hP hS => ?_)
  obtain ⟨rfl, hG_2⟩ := hR
  rw [hG_2] at hP
  clear hG_2
  refine kist hx hb dX0_valueSeenAt_5 rfl hl (by decide) (kp_2_2 rfl) (fun ls hl => ?_)
  refine lv_iload_n hx hb dX0_valueSeenAt_6 rfl (lv_at hl 2 rfl) ?_
  refine lv_iconst (v := (-1)) hx hb dX0_valueSeenAt_7 (by decide) ?_
  first
    | refine kic_ne (tgt := 15) hx hb dX0_valueSeenAt_8 (by decide) (by with_reducible rfl) (by with_reducible rfl) (by omega) (by omega) (fun c_8 => ?_) (fun c_8 => ?_)
    | refine lv_icmp_ne (tgt := 15) hx hb dX0_valueSeenAt_8 (by decide) (fun c_8 => ?_) (fun c_8 => ?_)
  · skip
    obtain ⟨w, hw1, hw2⟩ := (pf_or (G (cM j c)) x 0 P).resolve_left c_8
    rw [hw2] at hl
    refine lv_aload_n hx hb dX0_valueSeenAt_15 rfl (lv_at hl 0 rfl) ?_
    refine kget X hP (oC (by first | assumption | omega) (by first | assumption | omega)) g_X0_9 rfl dX0_valueSeenAt_16 ?_
    refine lv_iload_n hx hb dX0_valueSeenAt_19 rfl (lv_at hl 2 rfl) ?_
    refine kiald X hP (aV (by first | assumption | omega) (by first | assumption | omega)) (by omega) dX0_valueSeenAt_20 ?_
    exact hret _ _ _ _ _ _ (by refine ⟨?_, rfl⟩; first | exact (if_pos c_8).symm | exact (vsF_at hw2 (by omega)).symm) hP hS dX0_valueSeenAt_21
  · skip
    refine lv_iconst (v := nI 0) hx hb dX0_valueSeenAt_11 (by decide) ?_
    refine lv_goto (tgt := 21) hx hb dX0_valueSeenAt_12 (by decide) ?_
    exact hret _ _ _ _ _ _ (by refine ⟨?_, rfl⟩; first | exact (if_pos c_8).symm | exact (vsF_at hw2 (by omega)).symm) hP hS dX0_valueSeenAt_21

set_option maxHeartbeats 4000000 in
set_option maxRecDepth 100000 in
theorem c_X4_sumSeenBy (l : Launch) {D : va_G} {τ : Nat → ClassId} {ad : Nat → Nat} (hI : kInj ad) {G : Nat → Nat → Int32} {j r : Nat} {P : Nat → Nat} (hj : j < 7) (hr : r < 40) (hp : ∀ c, c < 12 → G (cB j c) 2 = nI (P c) ∧ P c ≤ 10) : kM l yX4_sumSeenBy cX4_sumSeenBy 4 (some .int) { frames := 2, cells := 0, slots := 0, locals := 44 } D τ ad [.ref (ad (sB j)), .ref (ad (rN j r))] G (fun v G' => v = sm (fun c => vsF (G (cV j c)) (G (cM j c)) (G (rN j r) 2) (P c)) 12 ∧ G' = G) := by
  refine kMet (own := RX4) (by decide) rfl (Nat.le_of_ble_eq_true rfl) ?_
  intro p9 e9 s9 m9 args9 below9 meth9 c9 Q9 X hx hb hP hS hret ls hl
  have hPs := hP
  have hl : lv_has ls 4 [(0, .ref (ad (sB j))), (1, .ref (ad (rN j r)))] := hl
  refine lv_iconst (v := nI 0) hx hb dX4_sumSeenBy_0 (by decide) ?_
  refine kist hx hb dX4_sumSeenBy_1 rfl hl (by decide) (kp_2_2 rfl) (fun ls hl => ?_)
  refine lv_iconst (v := nI 0) hx hb dX4_sumSeenBy_2 (by decide) ?_
  refine kist hx hb dX4_sumSeenBy_3 rfl hl (by decide) (kp_3_3 rfl) (fun ls hl => ?_)
  have lp_4 : ∀ (d : Nat) (i : Nat) (x : Int32) (H : Heap) (locs : List Loc) (ls : Array Slot), (12 - i) < d → (i ≤ 12) → (x = sm (fun c => vsF (G (cV j c)) (G (cM j c)) (G (rN j r) 2) (P c)) i) → va_P D vwCl (kW τ ad G) H → va_S (kAd ad) s9.heap H locs → lv_has ls 4 [(0, .ref (ad (sB j))), (1, .ref (ad (rN j r))), (2, .int x), (3, .int (nI i))] → W p9 l e9 { frames := 2, cells := 0, slots := 0, locals := 44 } s9 m9 args9 below9 meth9 c9 H locs 0 0 Q9 (F0 m9 4 ls []) := by
    intro d
    induction d with
    | zero => exact fun _ _ _ _ _ hd => absurd hd (Nat.not_lt_zero _)
    | succ d ih_4 =>
      intro i x H locs ls hd iv_0 iv_1 hP hS hl
      refine lv_iload_n hx hb dX4_sumSeenBy_4 rfl (lv_at hl 3 rfl) ?_
      refine lv_bipush (v := nI 12) hx hb dX4_sumSeenBy_5 (by decide) ?_
      first
        | refine kic_ge (tgt := 32) hx hb dX4_sumSeenBy_7 (by decide) (by with_reducible rfl) (by with_reducible rfl) (by omega) (by omega) (fun c_7 => ?_) (fun c_7 => ?_)
        | refine lv_icmp_ge (tgt := 32) hx hb dX4_sumSeenBy_7 (by decide) (fun c_7 => ?_) (fun c_7 => ?_)
      · skip
        refine lv_iload_n hx hb dX4_sumSeenBy_32 rfl (lv_at hl 2 rfl) ?_
        exact hret _ _ _ _ _ _ (⟨iv_1.trans (by rw [show i = 12 by omega]), rfl⟩) hP hS dX4_sumSeenBy_33
      · skip
        refine lv_iload_n hx hb dX4_sumSeenBy_10 rfl (lv_at hl 2 rfl) ?_
        refine lv_aload_n hx hb dX4_sumSeenBy_11 rfl (lv_at hl 0 rfl) ?_
        refine kget X hP (oS (by first | assumption | omega)) g_X4_11 rfl dX4_sumSeenBy_12 ?_
        refine lv_iload_n hx hb dX4_sumSeenBy_15 rfl (lv_at hl 3 rfl) ?_
        refine kaald X hP (qC (by first | assumption | omega)) (by first | assumption | omega) rfl dX4_sumSeenBy_16 ?_
        refine lv_aload_n hx hb dX4_sumSeenBy_17 rfl (lv_at hl 1 rfl) ?_
        refine kget X hP (oR (by first | assumption | omega) (by first | assumption | omega)) g_X4_90 rfl dX4_sumSeenBy_18 ?_
        refine kcV X hP hS (c_X0_valueSeenAt l hI (x := G (rN j r) 2) hj (by omega) (hp _ (by omega)).1 (hp _ (by omega)).2) (oC hj (by omega)) v_X4_101 ⟨Nat.le_of_ble_eq_true rfl, Nat.le_of_ble_eq_true rfl, rfl, rfl⟩ rfl rfl (Nat.le_of_ble_eq_true rfl) hl.1 ⟨Nat.zero_le _, Nat.zero_le _⟩ dX4_sumSeenBy_21 (fun r_21 G_21 H locs hR hP hS => ?_)
        obtain ⟨rfl, hG_21⟩ := hR
        rw [hG_21] at hP
        clear hG_21
        first
          | refine kadd hx hb dX4_sumSeenBy_24 (by with_reducible rfl) (by with_reducible rfl) ?_
          | refine lv_iadd hx hb dX4_sumSeenBy_24 ?_
        refine kist hx hb dX4_sumSeenBy_25 rfl hl (by decide) (kp_4_2 rfl) (fun ls hl => ?_)
        first
          | refine kinc (q := 3) hx hb dX4_sumSeenBy_26 hl rfl (by decide) (kp_4_3 rfl) (fun ls hl => ?_)
          | refine kincG (q := 3) hx hb dX4_sumSeenBy_26 hl rfl (by decide) (kp_4_3 rfl) (fun ls hl => ?_)
        refine lv_goto (tgt := 4) hx hb dX4_sumSeenBy_29 (by decide) ?_
        exact ih_4 _ _ _ _ _ (by omega) (by omega) (by rw [iv_1]; rfl) hP hS (lv_sub hl [0,1,2,3] rfl)
  exact lp_4 _ 0 0 _ _ _ (Nat.lt_succ_self _) (Nat.zero_le _) (rfl) hP hS (lv_sub hl [0,1,2,3] rfl)

set_option maxHeartbeats 4000000 in
set_option maxRecDepth 100000 in
theorem c_X4_shareOf (l : Launch) {D : va_G} {τ : Nat → ClassId} {ad : Nat → Nat} (hI : kInj ad) {G : Nat → Nat → Int32} {j n c P : Nat} {q : Int32} (hj : j < 7) (hn : G (sB j) 6 = nI n) (hn4 : n ≤ 40) (hc : c < 12) (hpl : G (cB j c) 2 = nI P) (hp10 : P ≤ 10) : kM l yX4_shareOf cX4_shareOf 4 (some .int) { frames := 2, cells := 0, slots := 0, locals := 47 } D τ ad [.ref (ad (sB j)), .ref (ad (cB j c)), .int q] G (fun v G' => v = shF G j n c P q ∧ G' = G) := by
  refine kMet (own := RX4) (by decide) rfl (Nat.le_of_ble_eq_true rfl) ?_
  intro p9 e9 s9 m9 args9 below9 meth9 c9 Q9 X hx hb hP hS hret ls hl
  have hPs := hP
  have hl : lv_has ls 4 [(0, .ref (ad (sB j))), (1, .ref (ad (cB j c))), (2, .int q)] := hl
  refine lv_iload_n hx hb dX4_shareOf_0 rfl (lv_at hl 2 rfl) ?_
  refine lv_if_gt (tgt := 6) hx hb dX4_shareOf_1 (by decide) (fun c_1 => ?_) (fun c_1 => ?_)
  · skip
    refine lv_aload_n hx hb dX4_shareOf_6 rfl (lv_at hl 0 rfl) ?_
    refine lv_aload_n hx hb dX4_shareOf_7 rfl (lv_at hl 1 rfl) ?_
    refine lv_iload_n hx hb dX4_shareOf_8 rfl (lv_at hl 2 rfl) ?_
    refine kcV X hP hS (c_X4_payersOf l hI hj hn hn4 hc hpl hp10) (oS (by first | assumption | omega)) v_X4_111 ⟨Nat.le_of_ble_eq_true rfl, Nat.le_of_ble_eq_true rfl, rfl, rfl⟩ rfl rfl (Nat.le_of_ble_eq_true rfl) hl.1 ⟨Nat.zero_le _, Nat.zero_le _⟩ dX4_shareOf_9 (fun r_9 G_9 H locs hR hP hS => ?_)
    obtain ⟨rfl, hG_9⟩ := hR
    rw [hG_9] at hP
    clear hG_9
    refine kist hx hb dX4_shareOf_12 rfl hl (by decide) (kp_3_3 rfl) (fun ls hl => ?_)
    refine lv_iload_n hx hb dX4_shareOf_13 rfl (lv_at hl 3 rfl) ?_
    first
      | refine kif_ne (tgt := 21) hx hb dX4_shareOf_14 (by decide) (fun c_14 => ?_) (fun c_14 => ?_)
      | refine lv_if_ne (tgt := 21) hx hb dX4_shareOf_14 (by decide) (fun c_14 => ?_) (fun c_14 => ?_)
    · skip
      have hne : ¬ nI (pyF G j n c P q) = 0 := c_14
      refine lv_aload_n hx hb dX4_shareOf_21 rfl (lv_at hl 0 rfl) ?_
      refine kget X hP (oS (by first | assumption | omega)) g_X4_29 rfl dX4_shareOf_22 ?_
      refine lv_iload_n hx hb dX4_shareOf_25 rfl (lv_at hl 3 rfl) ?_
      first
        | refine kadd hx hb dX4_shareOf_26 (by with_reducible rfl) (by with_reducible rfl) ?_
        | refine lv_iadd hx hb dX4_shareOf_26 ?_
      refine lv_iconst (v := nI 1) hx hb dX4_shareOf_27 (by decide) ?_
      first
        | refine ksub hx hb dX4_shareOf_28 (by with_reducible rfl) (by with_reducible rfl) (by omega) ?_
        | refine lv_isub hx hb dX4_shareOf_28 ?_
      refine lv_iload_n hx hb dX4_shareOf_29 rfl (lv_at hl 3 rfl) ?_
      refine lv_idiv hx hb dX4_shareOf_30 hne ?_
      exact hret _ _ _ _ _ _ (by refine ⟨?_, rfl⟩; first | exact ((if_neg (Int32.not_le.mpr c_1)).trans (if_pos c_14)).symm | exact ((if_neg (Int32.not_le.mpr c_1)).trans (if_neg c_14)).symm) hP hS dX4_shareOf_31
    · skip
      refine lv_iconst (v := nI 0) hx hb dX4_shareOf_17 (by decide) ?_
      refine lv_goto (tgt := 31) hx hb dX4_shareOf_18 (by decide) ?_
      exact hret _ _ _ _ _ _ (by refine ⟨?_, rfl⟩; first | exact ((if_neg (Int32.not_le.mpr c_1)).trans (if_pos c_14)).symm | exact ((if_neg (Int32.not_le.mpr c_1)).trans (if_neg c_14)).symm) hP hS dX4_shareOf_31
  · skip
    refine lv_iconst (v := nI 0) hx hb dX4_shareOf_4 (by decide) ?_
    exact hret _ _ _ _ _ _ (⟨(if_pos (Int32.not_lt.mp c_1)).symm, rfl⟩) hP hS dX4_shareOf_5

set_option maxHeartbeats 4000000 in
set_option maxRecDepth 100000 in
theorem c_X4_dueOf (l : Launch) {D : va_G} {τ : Nat → ClassId} {ad : Nat → Nat} (hI : kInj ad) {G : Nat → Nat → Int32} {j n r : Nat} {P : Nat → Nat} (hj : j < 7) (hn : G (sB j) 6 = nI n) (hn4 : n ≤ 40) (hr : r < 40) (hp : ∀ c, c < 12 → G (cB j c) 2 = nI (P c) ∧ P c ≤ 10) : kM l yX4_dueOf cX4_dueOf 4 (some .int) { frames := 3, cells := 0, slots := 0, locals := 70 } D τ ad [.ref (ad (sB j)), .ref (ad (rN j r))] G (fun v G' => v = dueF G j n P r ∧ G' = G) := by
  refine kMet (own := RX4) (by decide) rfl (Nat.le_of_ble_eq_true rfl) ?_
  intro p9 e9 s9 m9 args9 below9 meth9 c9 Q9 X hx hb hP hS hret ls hl
  have hPs := hP
  have hl : lv_has ls 4 [(0, .ref (ad (sB j))), (1, .ref (ad (rN j r)))] := hl
  refine lv_aload_n hx hb dX4_dueOf_0 rfl (lv_at hl 1 rfl) ?_
  refine kcV X hP hS (c_X3_paysRent l hI (by first | assumption | omega) (by first | assumption | omega)) (oR (by first | assumption | omega) (by first | assumption | omega)) v_X4_95 ⟨Nat.le_of_ble_eq_true rfl, Nat.le_of_ble_eq_true rfl, rfl, rfl⟩ rfl rfl (Nat.le_of_ble_eq_true rfl) hl.1 ⟨Nat.zero_le _, Nat.zero_le _⟩ dX4_dueOf_1 (fun r_1 G_1 H locs hR hP hS => ?_)
  obtain ⟨rfl, hG_1⟩ := hR
  rw [hG_1] at hP
  clear hG_1
  first
    | refine kif_ne (tgt := 9) hx hb dX4_dueOf_4 (by decide) (fun c_4 => ?_) (fun c_4 => ?_)
    | refine lv_if_ne (tgt := 9) hx hb dX4_dueOf_4 (by decide) (fun c_4 => ?_) (fun c_4 => ?_)
  · skip
    refine lv_iconst (v := nI 0) hx hb dX4_dueOf_9 (by decide) ?_
    refine kist hx hb dX4_dueOf_10 rfl hl (by decide) (kp_2_2 rfl) (fun ls hl => ?_)
    refine lv_iconst (v := nI 0) hx hb dX4_dueOf_11 (by decide) ?_
    refine kist hx hb dX4_dueOf_12 rfl hl (by decide) (kp_3_3 rfl) (fun ls hl => ?_)
    have lp_13 : ∀ (d : Nat) (i : Nat) (x : Int32) (H : Heap) (locs : List Loc) (ls : Array Slot), (12 - i) < d → (i ≤ 12) → (x = sm (fun c => shF G j n c (P c) (pf (G (cM j c)) (G (rN j r) 2) 0 (P c))) i) → va_P D vwCl (kW τ ad G) H → va_S (kAd ad) s9.heap H locs → lv_has ls 4 [(0, .ref (ad (sB j))), (1, .ref (ad (rN j r))), (2, .int x), (3, .int (nI i))] → W p9 l e9 { frames := 3, cells := 0, slots := 0, locals := 70 } s9 m9 args9 below9 meth9 c9 H locs 0 0 Q9 (F0 m9 13 ls []) := by
      intro d
      induction d with
      | zero => exact fun _ _ _ _ _ hd => absurd hd (Nat.not_lt_zero _)
      | succ d ih_13 =>
        intro i x H locs ls hd iv_0 iv_1 hP hS hl
        refine lv_iload_n hx hb dX4_dueOf_13 rfl (lv_at hl 3 rfl) ?_
        refine lv_bipush (v := nI 12) hx hb dX4_dueOf_14 (by decide) ?_
        first
          | refine kic_ge (tgt := 51) hx hb dX4_dueOf_16 (by decide) (by with_reducible rfl) (by with_reducible rfl) (by omega) (by omega) (fun c_16 => ?_) (fun c_16 => ?_)
          | refine lv_icmp_ge (tgt := 51) hx hb dX4_dueOf_16 (by decide) (fun c_16 => ?_) (fun c_16 => ?_)
        · skip
          refine lv_iload_n hx hb dX4_dueOf_51 rfl (lv_at hl 2 rfl) ?_
          exact hret _ _ _ _ _ _ (by refine ⟨?_, rfl⟩; rw [dueF, if_pos c_4, iv_1, show i = 12 by omega]) hP hS dX4_dueOf_52
        · skip
          refine lv_iload_n hx hb dX4_dueOf_19 rfl (lv_at hl 2 rfl) ?_
          refine lv_aload_n hx hb dX4_dueOf_20 rfl (lv_at hl 0 rfl) ?_
          refine lv_aload_n hx hb dX4_dueOf_21 rfl (lv_at hl 0 rfl) ?_
          refine kget X hP (oS (by first | assumption | omega)) g_X4_11 rfl dX4_dueOf_22 ?_
          refine lv_iload_n hx hb dX4_dueOf_25 rfl (lv_at hl 3 rfl) ?_
          refine kaald X hP (qC (by first | assumption | omega)) (by first | assumption | omega) rfl dX4_dueOf_26 ?_
          refine lv_aload_n hx hb dX4_dueOf_27 rfl (lv_at hl 0 rfl) ?_
          refine kget X hP (oS (by first | assumption | omega)) g_X4_11 rfl dX4_dueOf_28 ?_
          refine lv_iload_n hx hb dX4_dueOf_31 rfl (lv_at hl 3 rfl) ?_
          refine kaald X hP (qC (by first | assumption | omega)) (by first | assumption | omega) rfl dX4_dueOf_32 ?_
          refine lv_aload_n hx hb dX4_dueOf_33 rfl (lv_at hl 1 rfl) ?_
          refine kget X hP (oR (by first | assumption | omega) (by first | assumption | omega)) g_X4_90 rfl dX4_dueOf_34 ?_
          refine kcV X hP hS (c_X0_placeSeenAt l hI (x := G (rN j r) 2) hj (by omega) (hp _ (by omega)).1 (hp _ (by omega)).2) (oC hj (by omega)) v_X4_91 ⟨Nat.le_of_ble_eq_true rfl, Nat.le_of_ble_eq_true rfl, rfl, rfl⟩ rfl rfl (Nat.le_of_ble_eq_true rfl) hl.1 ⟨Nat.zero_le _, Nat.zero_le _⟩ dX4_dueOf_37 (fun r_37 G_37 H locs hR hP hS => ?_)
          obtain ⟨rfl, hG_37⟩ := hR
          rw [hG_37] at hP
          clear hG_37
          refine kcV X hP hS (c_X4_shareOf l hI hj hn hn4 (by omega) (hp _ (by omega)).1 (hp _ (by omega)).2) (oS (by first | assumption | omega)) v_X4_114 ⟨Nat.le_of_ble_eq_true rfl, Nat.le_of_ble_eq_true rfl, rfl, rfl⟩ rfl rfl (Nat.le_of_ble_eq_true rfl) hl.1 ⟨Nat.zero_le _, Nat.zero_le _⟩ dX4_dueOf_40 (fun r_40 G_40 H locs hR hP hS => ?_)
          obtain ⟨rfl, hG_40⟩ := hR
          rw [hG_40] at hP
          clear hG_40
          first
            | refine kadd hx hb dX4_dueOf_43 (by with_reducible rfl) (by with_reducible rfl) ?_
            | refine lv_iadd hx hb dX4_dueOf_43 ?_
          refine kist hx hb dX4_dueOf_44 rfl hl (by decide) (kp_4_2 rfl) (fun ls hl => ?_)
          first
            | refine kinc (q := 3) hx hb dX4_dueOf_45 hl rfl (by decide) (kp_4_3 rfl) (fun ls hl => ?_)
            | refine kincG (q := 3) hx hb dX4_dueOf_45 hl rfl (by decide) (kp_4_3 rfl) (fun ls hl => ?_)
          refine lv_goto (tgt := 13) hx hb dX4_dueOf_48 (by decide) ?_
          exact ih_13 _ _ _ _ _ (by omega) (by omega) (by rw [iv_1]; rfl) hP hS (lv_sub hl [0,1,2,3] rfl)
    exact lp_13 _ 0 0 _ _ _ (Nat.lt_succ_self _) (Nat.zero_le _) (rfl) hP hS (lv_sub hl [0,1,2,3] rfl)
  · skip
    refine lv_iconst (v := nI 0) hx hb dX4_dueOf_7 (by decide) ?_
    exact hret _ _ _ _ _ _ (⟨(if_neg c_4).symm, rfl⟩) hP hS dX4_dueOf_8

set_option maxHeartbeats 4000000 in
set_option maxRecDepth 100000 in
theorem c_X4_hasConflict (l : Launch) {D : va_G} {τ : Nat → ClassId} {ad : Nat → Nat} (hI : kInj ad) {G : Nat → Nat → Int32} {j r : Nat} (hj : j < 7) (hr : r < 40) : kM l yX4_hasConflict cX4_hasConflict 3 (some .boolean) { frames := 1, cells := 0, slots := 0, locals := 21 } D τ ad [.ref (ad (sB j)), .ref (ad (rN j r))] G (fun v G' => v = (if cn (cfF G j r) 12 ≠ 0 then 1 else 0) ∧ G' = G) := by
  refine kMetZ (own := RX4) (by decide) rfl (Nat.le_of_ble_eq_true rfl) ?_
  intro p9 e9 s9 m9 args9 below9 meth9 c9 Q9 X hx hb hP hS hret ls hl
  have hPs := hP
  have hl : lv_has ls 3 [(0, .ref (ad (sB j))), (1, .ref (ad (rN j r)))] := hl
  refine lv_iconst (v := nI 0) hx hb dX4_hasConflict_0 (by decide) ?_
  refine kist hx hb dX4_hasConflict_1 rfl hl (by decide) (kp_2_2 rfl) (fun ls hl => ?_)
  have lp_2 : ∀ (d : Nat) (i : Nat) (H : Heap) (locs : List Loc) (ls : Array Slot), (12 - i) < d → (i ≤ 12) → (0 = cn (cfF G j r) i) → va_P D vwCl (kW τ ad G) H → va_S (kAd ad) s9.heap H locs → lv_has ls 3 [(0, .ref (ad (sB j))), (1, .ref (ad (rN j r))), (2, .int (nI i))] → W p9 l e9 { frames := 1, cells := 0, slots := 0, locals := 21 } s9 m9 args9 below9 meth9 c9 H locs 0 0 Q9 (F0 m9 2 ls []) := by
    intro d
    induction d with
    | zero => exact fun _ _ _ _ hd => absurd hd (Nat.not_lt_zero _)
    | succ d ih_2 =>
      intro i H locs ls hd iv_0 iv_1 hP hS hl
      refine lv_iload_n hx hb dX4_hasConflict_2 rfl (lv_at hl 2 rfl) ?_
      refine lv_bipush (v := nI 12) hx hb dX4_hasConflict_3 (by decide) ?_
      first
        | refine kic_ge (tgt := 42) hx hb dX4_hasConflict_5 (by decide) (by with_reducible rfl) (by with_reducible rfl) (by omega) (by omega) (fun c_5 => ?_) (fun c_5 => ?_)
        | refine lv_icmp_ge (tgt := 42) hx hb dX4_hasConflict_5 (by decide) (fun c_5 => ?_) (fun c_5 => ?_)
      · skip
        refine lv_iconst (v := nI 0) hx hb dX4_hasConflict_42 (by decide) ?_
        exact hret _ _ _ _ _ _ (by decide) (by refine ⟨(if_neg (fun z => z ?_)).symm, rfl⟩; rw [show (12 : Nat) = i by omega]; exact iv_1.symm) hP hS dX4_hasConflict_43
      · skip
        refine lv_aload_n hx hb dX4_hasConflict_8 rfl (lv_at hl 1 rfl) ?_
        refine lv_iload_n hx hb dX4_hasConflict_9 rfl (lv_at hl 2 rfl) ?_
        refine kcV X hP hS (c_X3_hasWrite l hI (by first | assumption | omega) (by first | assumption | omega)) (oR (by first | assumption | omega) (by first | assumption | omega)) v_X4_86 ⟨Nat.le_of_ble_eq_true rfl, Nat.le_of_ble_eq_true rfl, rfl, rfl⟩ rfl rfl (Nat.le_of_ble_eq_true rfl) hl.1 ⟨Nat.zero_le _, Nat.zero_le _⟩ dX4_hasConflict_10 (fun r_10 G_10 H locs hR hP hS => ?_)
        obtain ⟨rfl, hG_10⟩ := hR
        rw [hG_10] at hP
        clear hG_10
        first
          | refine kif_eq (tgt := 36) hx hb dX4_hasConflict_13 (by decide) (fun c_13 => ?_) (fun c_13 => ?_)
          | refine lv_if_eq (tgt := 36) hx hb dX4_hasConflict_13 (by decide) (fun c_13 => ?_) (fun c_13 => ?_)
        · skip
          first
            | refine kinc (q := 2) hx hb dX4_hasConflict_36 hl rfl (by decide) (kp_3_2 rfl) (fun ls hl => ?_)
            | refine kincG (q := 2) hx hb dX4_hasConflict_36 hl rfl (by decide) (kp_3_2 rfl) (fun ls hl => ?_)
          refine lv_goto (tgt := 2) hx hb dX4_hasConflict_39 (by decide) ?_
          exact ih_2 _ _ _ _ (by omega) (by omega) (cn_z iv_1 (if_neg (fun z => c_13 z.1))) hP hS (lv_sub hl [0,1,2] rfl)
        · skip
          refine lv_aload_n hx hb dX4_hasConflict_16 rfl (lv_at hl 0 rfl) ?_
          refine kget X hP (oS (by first | assumption | omega)) g_X4_11 rfl dX4_hasConflict_17 ?_
          refine lv_iload_n hx hb dX4_hasConflict_20 rfl (lv_at hl 2 rfl) ?_
          refine kaald X hP (qC (by first | assumption | omega)) (by first | assumption | omega) rfl dX4_hasConflict_21 ?_
          refine kget X hP (oC hj (by omega)) g_X4_143 rfl dX4_hasConflict_22 ?_
          refine lv_iconst (v := nI 0) hx hb dX4_hasConflict_25 (by decide) ?_
          refine kiald X hP (aM hj (by omega)) (by omega) dX4_hasConflict_26 ?_
          refine lv_aload_n hx hb dX4_hasConflict_27 rfl (lv_at hl 1 rfl) ?_
          refine kget X hP (oR (by first | assumption | omega) (by first | assumption | omega)) g_X4_90 rfl dX4_hasConflict_28 ?_
          first
            | refine kic_le (tgt := 36) hx hb dX4_hasConflict_31 (by decide) (by with_reducible rfl) (by with_reducible rfl) (by omega) (by omega) (fun c_31 => ?_) (fun c_31 => ?_)
            | refine lv_icmp_le (tgt := 36) hx hb dX4_hasConflict_31 (by decide) (fun c_31 => ?_) (fun c_31 => ?_)
          · skip
            first
              | refine kinc (q := 2) hx hb dX4_hasConflict_36 hl rfl (by decide) (kp_3_2 rfl) (fun ls hl => ?_)
              | refine kincG (q := 2) hx hb dX4_hasConflict_36 hl rfl (by decide) (kp_3_2 rfl) (fun ls hl => ?_)
            refine lv_goto (tgt := 2) hx hb dX4_hasConflict_39 (by decide) ?_
            exact ih_2 _ _ _ _ (by omega) (by omega) (cn_z iv_1 (if_neg (fun z => Int32.not_le.mpr z.2 c_31))) hP hS (lv_sub hl [0,1,2] rfl)
          · skip
            refine lv_iconst (v := nI 1) hx hb dX4_hasConflict_34 (by decide) ?_
            exact hret _ _ _ _ _ _ (by decide) (by refine ⟨(if_pos (cn_pos (i := i) (by omega) ?_)).symm, rfl⟩; rw [cfF, if_pos ⟨c_13, Int32.not_le.mp c_31⟩]; decide) hP hS dX4_hasConflict_35
  exact lp_2 _ 0 _ _ _ (Nat.lt_succ_self _) (Nat.zero_le _) (rfl) hP hS (lv_sub hl [0,1,2] rfl)

set_option maxHeartbeats 4000000 in
set_option maxRecDepth 100000 in
theorem c_X1_isInSkewWithLater (l : Launch) {D : va_G} {τ : Nat → ClassId} {ad : Nat → Nat} (hI : kInj ad) {G : Nat → Nat → Int32} {j r q : Nat} (hj : j < 7) (hr : r < 40) (hq : q < 40) : kM l yX1_isInSkewWithLater cX1_isInSkewWithLater 2 (some .boolean) { frames := 0, cells := 0, slots := 0, locals := 0 } D τ ad [.ref (ad (mC j q)), .ref (ad (rN j r))] G (fun v G' => v = (if skF (G (mC j q)) (G (rN j r)) then 1 else 0) ∧ G' = G) := by
  refine kMetZ (own := RX1) (by decide) rfl (Nat.le_of_ble_eq_true rfl) ?_
  intro p9 e9 s9 m9 args9 below9 meth9 c9 Q9 X hx hb hP hS hret ls hl
  have hPs := hP
  have hl : lv_has ls 2 [(0, .ref (ad (mC j q))), (1, .ref (ad (rN j r)))] := hl
  refine lv_aload_n hx hb dX1_isInSkewWithLater_0 rfl (lv_at hl 1 rfl) ?_
  refine kget X hP (oR (by first | assumption | omega) (by first | assumption | omega)) g_X1_28 rfl dX1_isInSkewWithLater_1 ?_
  refine lv_aload_n hx hb dX1_isInSkewWithLater_4 rfl (lv_at hl 0 rfl) ?_
  refine kget X hP (oM (by first | assumption | omega) (by first | assumption | omega)) g_X1_16 rfl dX1_isInSkewWithLater_5 ?_
  first
    | refine kic_ge (tgt := 51) hx hb dX1_isInSkewWithLater_8 (by decide) (by with_reducible rfl) (by with_reducible rfl) (by omega) (by omega) (fun c_8 => ?_) (fun c_8 => ?_)
    | refine lv_icmp_ge (tgt := 51) hx hb dX1_isInSkewWithLater_8 (by decide) (fun c_8 => ?_) (fun c_8 => ?_)
  · skip
    refine lv_iconst (v := nI 0) hx hb dX1_isInSkewWithLater_51 (by decide) ?_
    exact hret _ _ _ _ _ _ (by decide) (⟨(if_neg (fun z => Int32.not_le.mpr z.1 c_8)).symm, rfl⟩) hP hS dX1_isInSkewWithLater_52
  · skip
    refine lv_aload_n hx hb dX1_isInSkewWithLater_11 rfl (lv_at hl 1 rfl) ?_
    refine kget X hP (oR (by first | assumption | omega) (by first | assumption | omega)) g_X1_33 rfl dX1_isInSkewWithLater_12 ?_
    refine lv_aload_n hx hb dX1_isInSkewWithLater_15 rfl (lv_at hl 0 rfl) ?_
    refine kget X hP (oM (by first | assumption | omega) (by first | assumption | omega)) g_X1_19 rfl dX1_isInSkewWithLater_16 ?_
    refine lv_iand hx hb dX1_isInSkewWithLater_19 ?_
    first
      | refine kif_eq (tgt := 51) hx hb dX1_isInSkewWithLater_20 (by decide) (fun c_20 => ?_) (fun c_20 => ?_)
      | refine lv_if_eq (tgt := 51) hx hb dX1_isInSkewWithLater_20 (by decide) (fun c_20 => ?_) (fun c_20 => ?_)
    · skip
      refine lv_iconst (v := nI 0) hx hb dX1_isInSkewWithLater_51 (by decide) ?_
      exact hret _ _ _ _ _ _ (by decide) (⟨(if_neg (fun z => z.2.1 c_20)).symm, rfl⟩) hP hS dX1_isInSkewWithLater_52
    · skip
      refine lv_aload_n hx hb dX1_isInSkewWithLater_23 rfl (lv_at hl 0 rfl) ?_
      refine kget X hP (oM (by first | assumption | omega) (by first | assumption | omega)) g_X1_22 rfl dX1_isInSkewWithLater_24 ?_
      refine lv_aload_n hx hb dX1_isInSkewWithLater_27 rfl (lv_at hl 1 rfl) ?_
      refine kget X hP (oR (by first | assumption | omega) (by first | assumption | omega)) g_X1_34 rfl dX1_isInSkewWithLater_28 ?_
      refine lv_iand hx hb dX1_isInSkewWithLater_31 ?_
      first
        | refine kif_eq (tgt := 51) hx hb dX1_isInSkewWithLater_32 (by decide) (fun c_32 => ?_) (fun c_32 => ?_)
        | refine lv_if_eq (tgt := 51) hx hb dX1_isInSkewWithLater_32 (by decide) (fun c_32 => ?_) (fun c_32 => ?_)
      · skip
        refine lv_iconst (v := nI 0) hx hb dX1_isInSkewWithLater_51 (by decide) ?_
        exact hret _ _ _ _ _ _ (by decide) (⟨(if_neg (fun z => z.2.2.1 c_32)).symm, rfl⟩) hP hS dX1_isInSkewWithLater_52
      · skip
        refine lv_aload_n hx hb dX1_isInSkewWithLater_35 rfl (lv_at hl 0 rfl) ?_
        refine kget X hP (oM (by first | assumption | omega) (by first | assumption | omega)) g_X1_19 rfl dX1_isInSkewWithLater_36 ?_
        refine lv_aload_n hx hb dX1_isInSkewWithLater_39 rfl (lv_at hl 1 rfl) ?_
        refine kget X hP (oR (by first | assumption | omega) (by first | assumption | omega)) g_X1_34 rfl dX1_isInSkewWithLater_40 ?_
        refine lv_iand hx hb dX1_isInSkewWithLater_43 ?_
        first
          | refine kif_ne (tgt := 51) hx hb dX1_isInSkewWithLater_44 (by decide) (fun c_44 => ?_) (fun c_44 => ?_)
          | refine lv_if_ne (tgt := 51) hx hb dX1_isInSkewWithLater_44 (by decide) (fun c_44 => ?_) (fun c_44 => ?_)
        · skip
          refine lv_iconst (v := nI 0) hx hb dX1_isInSkewWithLater_51 (by decide) ?_
          exact hret _ _ _ _ _ _ (by decide) (⟨(if_neg (fun z => c_44 z.2.2.2)).symm, rfl⟩) hP hS dX1_isInSkewWithLater_52
        · skip
          refine lv_iconst (v := nI 1) hx hb dX1_isInSkewWithLater_47 (by decide) ?_
          refine lv_goto (tgt := 52) hx hb dX1_isInSkewWithLater_48 (by decide) ?_
          exact hret _ _ _ _ _ _ (by decide) (⟨(if_pos ⟨Int32.not_le.mp c_8, c_20, c_32, c_44⟩).symm, rfl⟩) hP hS dX1_isInSkewWithLater_52

set_option maxHeartbeats 4000000 in
set_option maxRecDepth 100000 in
theorem c_X4_skewsOf (l : Launch) {D : va_G} {τ : Nat → ClassId} {ad : Nat → Nat} (hI : kInj ad) {G : Nat → Nat → Int32} {j k r : Nat} (hj : j < 7) (hk : G (sB j) 7 = nI k) (hk4 : k ≤ 40) (hr : r < 40) : kM l yX4_skewsOf cX4_skewsOf 4 (some .int) { frames := 1, cells := 0, slots := 0, locals := 21 } D τ ad [.ref (ad (sB j)), .ref (ad (rN j r))] G (fun v G' => v = nI (cn (fun q => if skF (G (mC j q)) (G (rN j r)) then 1 else 0) k) ∧ G' = G) := by
  refine kMet (own := RX4) (by decide) rfl (Nat.le_of_ble_eq_true rfl) ?_
  intro p9 e9 s9 m9 args9 below9 meth9 c9 Q9 X hx hb hP hS hret ls hl
  have hPs := hP
  have hl : lv_has ls 4 [(0, .ref (ad (sB j))), (1, .ref (ad (rN j r)))] := hl
  refine lv_iconst (v := nI 0) hx hb dX4_skewsOf_0 (by decide) ?_
  refine kist hx hb dX4_skewsOf_1 rfl hl (by decide) (kp_2_2 rfl) (fun ls hl => ?_)
  refine lv_iconst (v := nI 0) hx hb dX4_skewsOf_2 (by decide) ?_
  refine kist hx hb dX4_skewsOf_3 rfl hl (by decide) (kp_3_3 rfl) (fun ls hl => ?_)
  have lp_4 : ∀ (d : Nat) (i x : Nat) (H : Heap) (locs : List Loc) (ls : Array Slot), (k - i) < d → (i ≤ k) → (x = cn (fun q => if skF (G (mC j q)) (G (rN j r)) then 1 else 0) i) → va_P D vwCl (kW τ ad G) H → va_S (kAd ad) s9.heap H locs → lv_has ls 4 [(0, .ref (ad (sB j))), (1, .ref (ad (rN j r))), (2, .int (nI x)), (3, .int (nI i))] → W p9 l e9 { frames := 1, cells := 0, slots := 0, locals := 21 } s9 m9 args9 below9 meth9 c9 H locs 0 0 Q9 (F0 m9 4 ls []) := by
    intro d
    induction d with
    | zero => exact fun _ _ _ _ _ hd => absurd hd (Nat.not_lt_zero _)
    | succ d ih_4 =>
      intro i x H locs ls hd iv_0 iv_1 hP hS hl
      refine lv_iload_n hx hb dX4_skewsOf_4 rfl (lv_at hl 3 rfl) ?_
      refine lv_aload_n hx hb dX4_skewsOf_5 rfl (lv_at hl 0 rfl) ?_
      refine kget X hP (oS (by first | assumption | omega)) g_X4_50 (congrArg (fun z => some (Value.int z)) hk) dX4_skewsOf_6 ?_
      first
        | refine kic_ge (tgt := 34) hx hb dX4_skewsOf_9 (by decide) (by with_reducible rfl) (by with_reducible rfl) (by omega) (by omega) (fun c_9 => ?_) (fun c_9 => ?_)
        | refine lv_icmp_ge (tgt := 34) hx hb dX4_skewsOf_9 (by decide) (fun c_9 => ?_) (fun c_9 => ?_)
      · skip
        refine lv_iload_n hx hb dX4_skewsOf_34 rfl (lv_at hl 2 rfl) ?_
        exact hret _ _ _ _ _ _ (⟨congrArg nI (iv_1.trans (by rw [show i = k by omega])), rfl⟩) hP hS dX4_skewsOf_35
      · skip
        refine lv_aload_n hx hb dX4_skewsOf_12 rfl (lv_at hl 0 rfl) ?_
        refine kget X hP (oS (by first | assumption | omega)) g_X4_25 rfl dX4_skewsOf_13 ?_
        refine lv_iload_n hx hb dX4_skewsOf_16 rfl (lv_at hl 3 rfl) ?_
        refine kaald X hP (qM (by first | assumption | omega)) (by first | assumption | omega) rfl dX4_skewsOf_17 ?_
        refine lv_aload_n hx hb dX4_skewsOf_18 rfl (lv_at hl 1 rfl) ?_
        refine kcV X hP hS (c_X1_isInSkewWithLater l hI (by first | assumption | omega) (by first | assumption | omega) (by first | assumption | omega)) (oM (by first | assumption | omega) (by first | assumption | omega)) v_X4_146 ⟨Nat.le_of_ble_eq_true rfl, Nat.le_of_ble_eq_true rfl, rfl, rfl⟩ rfl rfl (Nat.le_of_ble_eq_true rfl) hl.1 ⟨Nat.zero_le _, Nat.zero_le _⟩ dX4_skewsOf_19 (fun r_19 G_19 H locs hR hP hS => ?_)
        obtain ⟨rfl, hG_19⟩ := hR
        rw [hG_19] at hP
        clear hG_19
        first
          | refine kif_eq (tgt := 28) hx hb dX4_skewsOf_22 (by decide) (fun c_22 => ?_) (fun c_22 => ?_)
          | refine lv_if_eq (tgt := 28) hx hb dX4_skewsOf_22 (by decide) (fun c_22 => ?_) (fun c_22 => ?_)
        · skip
          first
            | refine kinc (q := 3) hx hb dX4_skewsOf_28 hl rfl (by decide) (kp_4_3 rfl) (fun ls hl => ?_)
            | refine kincG (q := 3) hx hb dX4_skewsOf_28 hl rfl (by decide) (kp_4_3 rfl) (fun ls hl => ?_)
          refine lv_goto (tgt := 4) hx hb dX4_skewsOf_31 (by decide) ?_
          exact ih_4 _ _ _ _ _ (by omega) (by omega) (by first | exact cn_p iv_1 (if_pos c_22) | exact cn_z iv_1 (if_neg c_22)) hP hS (lv_sub hl [0,1,2,3] rfl)
        · skip
          first
            | refine kinc (q := 2) hx hb dX4_skewsOf_25 hl rfl (by decide) (kp_4_2 rfl) (fun ls hl => ?_)
            | refine kincG (q := 2) hx hb dX4_skewsOf_25 hl rfl (by decide) (kp_4_2 rfl) (fun ls hl => ?_)
          first
            | refine kinc (q := 3) hx hb dX4_skewsOf_28 hl rfl (by decide) (kp_4_3 rfl) (fun ls hl => ?_)
            | refine kincG (q := 3) hx hb dX4_skewsOf_28 hl rfl (by decide) (kp_4_3 rfl) (fun ls hl => ?_)
          refine lv_goto (tgt := 4) hx hb dX4_skewsOf_31 (by decide) ?_
          exact ih_4 _ _ _ _ _ (by omega) (by omega) (by first | exact cn_p iv_1 (if_pos c_22) | exact cn_z iv_1 (if_neg c_22)) hP hS (lv_sub hl [0,1,2,3] rfl)
  exact lp_4 _ 0 0 _ _ _ (Nat.lt_succ_self _) (Nat.zero_le _) (rfl) hP hS (lv_sub hl [0,1,2,3] rfl)

set_option maxHeartbeats 4000000 in
set_option maxRecDepth 100000 in
theorem c_X4_pairsInSkew (l : Launch) {D : va_G} {τ : Nat → ClassId} {ad : Nat → Nat} (hI : kInj ad) {G : Nat → Nat → Int32} {j k : Nat} (hj : j < 7) (hk : G (sB j) 7 = nI k) (hk4 : k ≤ 40) : kM l yX4_pairsInSkew cX4_pairsInSkew 3 (some .int) { frames := 0, cells := 0, slots := 0, locals := 0 } D τ ad [.ref (ad (sB j))] G (fun v G' => v = sm (fun q => G (mC j q) 5) k ∧ G' = G) := by
  refine kMet (own := RX4) (by decide) rfl (Nat.le_of_ble_eq_true rfl) ?_
  intro p9 e9 s9 m9 args9 below9 meth9 c9 Q9 X hx hb hP hS hret ls hl
  have hPs := hP
  have hl : lv_has ls 3 [(0, .ref (ad (sB j)))] := hl
  refine lv_iconst (v := nI 0) hx hb dX4_pairsInSkew_0 (by decide) ?_
  refine kist hx hb dX4_pairsInSkew_1 rfl hl (by decide) (kp_1_1 rfl) (fun ls hl => ?_)
  refine lv_iconst (v := nI 0) hx hb dX4_pairsInSkew_2 (by decide) ?_
  refine kist hx hb dX4_pairsInSkew_3 rfl hl (by decide) (kp_2_2 rfl) (fun ls hl => ?_)
  have lp_4 : ∀ (d : Nat) (i : Nat) (x : Int32) (H : Heap) (locs : List Loc) (ls : Array Slot), (k - i) < d → (i ≤ k) → (x = sm (fun q => G (mC j q) 5) i) → va_P D vwCl (kW τ ad G) H → va_S (kAd ad) s9.heap H locs → lv_has ls 3 [(0, .ref (ad (sB j))), (1, .int x), (2, .int (nI i))] → W p9 l e9 { frames := 0, cells := 0, slots := 0, locals := 0 } s9 m9 args9 below9 meth9 c9 H locs 0 0 Q9 (F0 m9 4 ls []) := by
    intro d
    induction d with
    | zero => exact fun _ _ _ _ _ hd => absurd hd (Nat.not_lt_zero _)
    | succ d ih_4 =>
      intro i x H locs ls hd iv_0 iv_1 hP hS hl
      refine lv_iload_n hx hb dX4_pairsInSkew_4 rfl (lv_at hl 2 rfl) ?_
      refine lv_aload_n hx hb dX4_pairsInSkew_5 rfl (lv_at hl 0 rfl) ?_
      refine kget X hP (oS (by first | assumption | omega)) g_X4_50 (congrArg (fun z => some (Value.int z)) hk) dX4_pairsInSkew_6 ?_
      first
        | refine kic_ge (tgt := 30) hx hb dX4_pairsInSkew_9 (by decide) (by with_reducible rfl) (by with_reducible rfl) (by omega) (by omega) (fun c_9 => ?_) (fun c_9 => ?_)
        | refine lv_icmp_ge (tgt := 30) hx hb dX4_pairsInSkew_9 (by decide) (fun c_9 => ?_) (fun c_9 => ?_)
      · skip
        refine lv_iload_n hx hb dX4_pairsInSkew_30 rfl (lv_at hl 1 rfl) ?_
        exact hret _ _ _ _ _ _ (⟨iv_1.trans (by rw [show i = k by omega]), rfl⟩) hP hS dX4_pairsInSkew_31
      · skip
        refine lv_iload_n hx hb dX4_pairsInSkew_12 rfl (lv_at hl 1 rfl) ?_
        refine lv_aload_n hx hb dX4_pairsInSkew_13 rfl (lv_at hl 0 rfl) ?_
        refine kget X hP (oS (by first | assumption | omega)) g_X4_25 rfl dX4_pairsInSkew_14 ?_
        refine lv_iload_n hx hb dX4_pairsInSkew_17 rfl (lv_at hl 2 rfl) ?_
        refine kaald X hP (qM (by first | assumption | omega)) (by first | assumption | omega) rfl dX4_pairsInSkew_18 ?_
        refine kget X hP (oM (by first | assumption | omega) (by first | assumption | omega)) g_X4_150 rfl dX4_pairsInSkew_19 ?_
        first
          | refine kadd hx hb dX4_pairsInSkew_22 (by with_reducible rfl) (by with_reducible rfl) ?_
          | refine lv_iadd hx hb dX4_pairsInSkew_22 ?_
        refine kist hx hb dX4_pairsInSkew_23 rfl hl (by decide) (kp_3_1 rfl) (fun ls hl => ?_)
        first
          | refine kinc (q := 2) hx hb dX4_pairsInSkew_24 hl rfl (by decide) (kp_3_2 rfl) (fun ls hl => ?_)
          | refine kincG (q := 2) hx hb dX4_pairsInSkew_24 hl rfl (by decide) (kp_3_2 rfl) (fun ls hl => ?_)
        refine lv_goto (tgt := 4) hx hb dX4_pairsInSkew_27 (by decide) ?_
        exact ih_4 _ _ _ _ _ (by omega) (by omega) (by rw [iv_1]; rfl) hP hS (lv_sub hl [0,1,2] rfl)
  exact lp_4 _ 0 0 _ _ _ (Nat.lt_succ_self _) (Nat.zero_le _) (rfl) hP hS (lv_sub hl [0,1,2] rfl)

set_option maxHeartbeats 4000000 in
set_option maxRecDepth 100000 in
theorem c_X4_oldVersionsWithout (l : Launch) {D : va_G} {τ : Nat → ClassId} {ad : Nat → Nat} (hI : kInj ad) {G : Nat → Nat → Int32} {j n r : Nat} {P : Nat → Nat} (hj : j < 7) (hn : G (sB j) 6 = nI n) (hn4 : n ≤ 40) (hr : r < n) (hp : ∀ c, c < 12 → G (cB j c) 2 = nI (P c) ∧ P c ≤ 10) : kM l yX4_oldVersionsWithout cX4_oldVersionsWithout 6 (some .int) { frames := 2, cells := 0, slots := 0, locals := 47 } D τ ad [.ref (ad (sB j)), .int (nI r)] G (fun v G' => v = sm (ovF G j n r P) 12 ∧ G' = G) := by
  refine kMet (own := RX4) (by decide) rfl (Nat.le_of_ble_eq_true rfl) ?_
  intro p9 e9 s9 m9 args9 below9 meth9 c9 Q9 X hx hb hP hS hret ls hl
  have hPs := hP
  have hl : lv_has ls 6 [(0, .ref (ad (sB j))), (1, .int (nI r))] := hl
  refine lv_iconst (v := nI 0) hx hb dX4_oldVersionsWithout_0 (by decide) ?_
  refine kist hx hb dX4_oldVersionsWithout_1 rfl hl (by decide) (kp_2_2 rfl) (fun ls hl => ?_)
  refine lv_iconst (v := nI 0) hx hb dX4_oldVersionsWithout_2 (by decide) ?_
  refine kist hx hb dX4_oldVersionsWithout_3 rfl hl (by decide) (kp_3_3 rfl) (fun ls hl => ?_)
  have lp_4 : ∀ (d : Nat) (i : Nat) (x : Int32) (H : Heap) (locs : List Loc) (ls : Array Slot), (12 - i) < d → (i ≤ 12) → (x = sm (ovF G j n r P) i) → va_P D vwCl (kW τ ad G) H → va_S (kAd ad) s9.heap H locs → lv_has ls 6 [(0, .ref (ad (sB j))), (1, .int (nI r)), (2, .int x), (3, .int (nI i))] → W p9 l e9 { frames := 2, cells := 0, slots := 0, locals := 47 } s9 m9 args9 below9 meth9 c9 H locs 0 0 Q9 (F0 m9 4 ls []) := by
    intro d
    induction d with
    | zero => exact fun _ _ _ _ _ hd => absurd hd (Nat.not_lt_zero _)
    | succ d ih_4 =>
      intro i x H locs ls hd iv_0 iv_1 hP hS hl
      refine lv_iload_n hx hb dX4_oldVersionsWithout_4 rfl (lv_at hl 3 rfl) ?_
      refine lv_bipush (v := nI 12) hx hb dX4_oldVersionsWithout_5 (by decide) ?_
      first
        | refine kic_ge (tgt := 62) hx hb dX4_oldVersionsWithout_7 (by decide) (by with_reducible rfl) (by with_reducible rfl) (by omega) (by omega) (fun c_7 => ?_) (fun c_7 => ?_)
        | refine lv_icmp_ge (tgt := 62) hx hb dX4_oldVersionsWithout_7 (by decide) (fun c_7 => ?_) (fun c_7 => ?_)
      · skip
        refine lv_iload_n hx hb dX4_oldVersionsWithout_62 rfl (lv_at hl 2 rfl) ?_
        exact hret _ _ _ _ _ _ (⟨iv_1.trans (by rw [show i = 12 by omega]), rfl⟩) hP hS dX4_oldVersionsWithout_63
      · skip
        refine lv_aload_n hx hb dX4_oldVersionsWithout_10 rfl (lv_at hl 0 rfl) ?_
        refine lv_aload_n hx hb dX4_oldVersionsWithout_11 rfl (lv_at hl 0 rfl) ?_
        refine kget X hP (oS (by first | assumption | omega)) g_X4_11 rfl dX4_oldVersionsWithout_12 ?_
        refine lv_iload_n hx hb dX4_oldVersionsWithout_15 rfl (lv_at hl 3 rfl) ?_
        refine kaald X hP (qC (by first | assumption | omega)) (by first | assumption | omega) rfl dX4_oldVersionsWithout_16 ?_
        refine lv_iload_n hx hb dX4_oldVersionsWithout_17 rfl (lv_at hl 1 rfl) ?_
        refine kcV X hP hS (c_X4_placesSeen l hI (q := nI r) hj hn hn4 (by omega) (hp _ (by omega)).1 (hp _ (by omega)).2) (oS (by first | assumption | omega)) v_X4_104 ⟨Nat.le_of_ble_eq_true rfl, Nat.le_of_ble_eq_true rfl, rfl, rfl⟩ rfl rfl (Nat.le_of_ble_eq_true rfl) hl.1 ⟨Nat.zero_le _, Nat.zero_le _⟩ dX4_oldVersionsWithout_18 (fun r_18 G_18 H locs hR hP hS => ?_)
        obtain ⟨rfl, hG_18⟩ := hR
        rw [hG_18] at hP
        clear hG_18
        refine kistW hx hb dX4_oldVersionsWithout_21 hl (by decide) (kp_4_4 rfl) (fun ls hl => ?_)
        refine lv_aload_n hx hb dX4_oldVersionsWithout_23 rfl (lv_at hl 0 rfl) ?_
        refine kget X hP (oS (by first | assumption | omega)) g_X4_19 rfl dX4_oldVersionsWithout_24 ?_
        refine lv_iload_n hx hb dX4_oldVersionsWithout_27 rfl (lv_at hl 1 rfl) ?_
        refine kaald X hP (qR (by first | assumption | omega)) (by omega) rfl dX4_oldVersionsWithout_28 ?_
        refine lv_iload_n hx hb dX4_oldVersionsWithout_29 rfl (lv_at hl 3 rfl) ?_
        refine kcV X hP hS (c_X3_hasWrite l hI (by first | assumption | omega) (by first | assumption | omega)) (oR (by first | assumption | omega) (by first | assumption | omega)) v_X4_86 ⟨Nat.le_of_ble_eq_true rfl, Nat.le_of_ble_eq_true rfl, rfl, rfl⟩ rfl rfl (Nat.le_of_ble_eq_true rfl) hl.1 ⟨Nat.zero_le _, Nat.zero_le _⟩ dX4_oldVersionsWithout_30 (fun r_30 G_30 H locs hR hP hS => ?_)
        obtain ⟨rfl, hG_30⟩ := hR
        rw [hG_30] at hP
        clear hG_30
        refine kistW hx hb dX4_oldVersionsWithout_33 hl (by decide) (kp_5_5 rfl) (fun ls hl => ?_)
        refine lv_iload_n hx hb dX4_oldVersionsWithout_35 rfl (lv_at hl 2 rfl) ?_
        refine lv_iload hx hb dX4_oldVersionsWithout_36 (lv_at hl 5 rfl) ?_
        first
          | refine kif_eq (tgt := 46) hx hb dX4_oldVersionsWithout_38 (by decide) (fun c_38 => ?_) (fun c_38 => ?_)
          | refine lv_if_eq (tgt := 46) hx hb dX4_oldVersionsWithout_38 (by decide) (fun c_38 => ?_) (fun c_38 => ?_)
        · skip
          refine lv_iload hx hb dX4_oldVersionsWithout_46 (lv_at hl 4 rfl) ?_
          refine lv_bipush (v := (-2)) hx hb dX4_oldVersionsWithout_48 (by decide) ?_
          refine lv_iand hx hb dX4_oldVersionsWithout_50 ?_
          refine kcS2 X hP hS (c_J6_bitCount_0f7a4 l hI) (n := 1) ⟨kWs_of 499 (by decide +kernel) rfl, mw_J6_bitCount_0f7a4.2.1, mw_J6_bitCount_0f7a4.2.2, mw_J6_bitCount_0f7a4.1, by decide, by decide, by decide +kernel⟩ ⟨Nat.le_of_ble_eq_true rfl, Nat.le_of_ble_eq_true rfl, rfl, rfl⟩ rfl rfl (Nat.le_of_ble_eq_true rfl) hl.1 ⟨Nat.zero_le _, Nat.zero_le _⟩ dX4_oldVersionsWithout_51 (fun r_51 G_51 H locs hR hP hS => ?_)
          obtain ⟨rfl, hG_51⟩ := hR
          rw [hG_51] at hP
          clear hG_51
          first
            | refine kadd hx hb dX4_oldVersionsWithout_54 (by with_reducible rfl) (by with_reducible rfl) ?_
            | refine lv_iadd hx hb dX4_oldVersionsWithout_54 ?_
          refine kist hx hb dX4_oldVersionsWithout_55 rfl hl (by decide) (kp_6_2 rfl) (fun ls hl => ?_)
          first
            | refine kinc (q := 3) hx hb dX4_oldVersionsWithout_56 hl rfl (by decide) (kp_6_3 rfl) (fun ls hl => ?_)
            | refine kincG (q := 3) hx hb dX4_oldVersionsWithout_56 hl rfl (by decide) (kp_6_3 rfl) (fun ls hl => ?_)
          refine lv_goto (tgt := 4) hx hb dX4_oldVersionsWithout_59 (by decide) ?_
          exact ih_4 _ _ _ _ _ (by omega) (by omega) (by first | exact sm_s iv_1 (congrArg bcF (if_pos c_38)) | exact sm_s iv_1 (congrArg bcF (if_neg c_38))) hP hS (lv_sub hl [0,1,2,3] rfl)
        · skip
          refine lv_iload hx hb dX4_oldVersionsWithout_41 (lv_at hl 4 rfl) ?_
          refine lv_goto (tgt := 51) hx hb dX4_oldVersionsWithout_43 (by decide) ?_
          refine kcS2 X hP hS (c_J6_bitCount_0f7a4 l hI) (n := 1) ⟨kWs_of 499 (by decide +kernel) rfl, mw_J6_bitCount_0f7a4.2.1, mw_J6_bitCount_0f7a4.2.2, mw_J6_bitCount_0f7a4.1, by decide, by decide, by decide +kernel⟩ ⟨Nat.le_of_ble_eq_true rfl, Nat.le_of_ble_eq_true rfl, rfl, rfl⟩ rfl rfl (Nat.le_of_ble_eq_true rfl) hl.1 ⟨Nat.zero_le _, Nat.zero_le _⟩ dX4_oldVersionsWithout_51 (fun r_51 G_51 H locs hR hP hS => ?_)
          obtain ⟨rfl, hG_51⟩ := hR
          rw [hG_51] at hP
          clear hG_51
          first
            | refine kadd hx hb dX4_oldVersionsWithout_54 (by with_reducible rfl) (by with_reducible rfl) ?_
            | refine lv_iadd hx hb dX4_oldVersionsWithout_54 ?_
          refine kist hx hb dX4_oldVersionsWithout_55 rfl hl (by decide) (kp_6_2 rfl) (fun ls hl => ?_)
          first
            | refine kinc (q := 3) hx hb dX4_oldVersionsWithout_56 hl rfl (by decide) (kp_6_3 rfl) (fun ls hl => ?_)
            | refine kincG (q := 3) hx hb dX4_oldVersionsWithout_56 hl rfl (by decide) (kp_6_3 rfl) (fun ls hl => ?_)
          refine lv_goto (tgt := 4) hx hb dX4_oldVersionsWithout_59 (by decide) ?_
          exact ih_4 _ _ _ _ _ (by omega) (by omega) (by first | exact sm_s iv_1 (congrArg bcF (if_pos c_38)) | exact sm_s iv_1 (congrArg bcF (if_neg c_38))) hP hS (lv_sub hl [0,1,2,3] rfl)
  exact lp_4 _ 0 0 _ _ _ (Nat.lt_succ_self _) (Nat.zero_le _) (rfl) hP hS (lv_sub hl [0,1,2,3] rfl)
