
theorem dgt_d {S : Nat → Int32} {T p : Nat} (h : dgt S T p) : ∃ d, d ≤ 9 ∧ S p = nI (48 + d) := by
  obtain ⟨h1, h2, h3⟩ := h
  obtain ⟨q, q1, q2⟩ := nI_of2 (x := S p) (M := nI 57) (n := 57) rfl (by
    intro z
    exact absurd (Int32.lt_of_le_of_lt h2 z) (by decide)) h3
  rw [q2] at h2
  have h4 := (nI_leI (by omega) (by omega)).mp h2
  exact ⟨q - 48, by omega, by rw [q2]; congr 1; omega⟩
theorem dig_v (d : Nat) : nI (48 + d) - nI 48 = nI d := by rw [pk_sub (by omega)]; congr 1; omega
/-- the number of k digits, as a number -/
def nv (S : Nat → Int32) (a : Nat) : Nat → Nat
  | 0 => 0
  | k + 1 => nv S a k * 10 + ((S (a + k)).toNatClampNeg - 48)
theorem nv_d {S : Nat → Int32} {T a k : Nat} (h : dgt S T (a + k)) : ∃ d, d ≤ 9 ∧ nv S a (k + 1) = nv S a k * 10 + d ∧ S (a + k) = nI (48 + d) := by
  obtain ⟨d, d1, d2⟩ := dgt_d h
  refine ⟨d, d1, ?_, d2⟩
  rw [nv, d2, nI_clamp (by omega)]
  congr 1; omega
theorem nmF_nv {S : Nat → Int32} {T a : Nat} (k : Nat) (h : ∀ i, i < k → dgt S T (a + i)) : nmF S a k = nI (nv S a k) := by
  induction k with
  | zero => rfl
  | succ k ih =>
    obtain ⟨d, d1, d2, d3⟩ := nv_d (h k (by omega))
    rw [nmF, ih (fun i hi => h i (by omega)), d2, d3, dig_v, pk_mul, nI_add]
theorem eon_dgt {S : Nat → Int32} {T a m : Nat} (hm : 1 ≤ m) : eon S T a m = a ↔ ¬ dgt S T a := by
  have hk : 0 < (if sgn S T a 48 then 1 else m) := by split <;> omega
  unfold eon
  constructor
  · intro h q
    rw [rnn_s hk q] at h
    have := (rnn_b S T ((if sgn S T a 48 then 1 else m) - 1) (a + 1)).1
    omega
  · intro q
    exact rnn_z (Or.inr q)
theorem sgn_2 {S : Nat → Int32} {T a s : Nat} : (a < T ∧ nI s ≤ S a ∧ S a ≤ nI s) ↔ sgn S T a s := ⟨fun h => ⟨h.1, Int32.le_antisymm h.2.2 h.2.1⟩, fun h => ⟨h.1, by rw [h.2]; exact Int32.le_refl _, by rw [h.2]; exact Int32.le_refl _⟩⟩
theorem nv_step {S : Nat → Int32} {T a k : Nat} (h : dgt S T (a + k)) : nI 10 * nI (nv S a k) + S (a + k) - nI 48 = nI (nv S a (k + 1)) := by
  obtain ⟨d, d1, d2, d3⟩ := nv_d h
  rw [d3, d2, pk_mul, nI_add, pk_sub (by omega)]
  congr 1; omega

theorem nv_s2 {S : Nat → Int32} {T a k x : Nat} (h : x = nv S a k) (hd : a + k < T ∧ nI 48 ≤ S (a + k) ∧ S (a + k) ≤ nI 57) : nI 10 * nI x + S (a + k) - nI 48 = nI (nv S a (k + 1)) := by rw [h]; exact nv_step hd
theorem nv_lt {S : Nat → Int32} {T a k x : Nat} (h : x = nv S a k ∧ x < 10 ^ k) (hd : a + k < T ∧ nI 48 ≤ S (a + k) ∧ S (a + k) ≤ nI 57) : nv S a (k + 1) < 10 ^ (k + 1) := by
  obtain ⟨d, d1, d2, d3⟩ := nv_d (show dgt S T (a + k) from hd)
  rw [d2, ← h.1, Nat.pow_succ]
  omega
theorem nv_pos {S : Nat → Int32} {T a k x : Nat} (h : x = nv S a k) (hx : 0 < x) (hd : a + k < T ∧ nI 48 ≤ S (a + k) ∧ S (a + k) ≤ nI 57) : 0 < nv S a (k + 1) := by
  obtain ⟨d, d1, d2, d3⟩ := nv_d (show dgt S T (a + k) from hd)
  rw [d2, ← h]
  omega
theorem rnn_k {S : Nat → Int32} {T a : Nat} (m k : Nat) (h : ∀ t, t < k → dgt S T (a + t)) (hk : k ≤ m) : rnn S T a m = rnn S T (a + k) (m - k) := by
  induction k with
  | zero => rfl
  | succ k ih => rw [ih (fun t ht => h t (by omega)) (by omega), rnn_s (by omega) (h k (by omega)), show m - k - 1 = m - (k + 1) by omega]; rfl
theorem eon_k {S : Nat → Int32} {T a m k : Nat} (h0 : ¬ sgn S T a 48) (h : ∀ t, t < k → dgt S T (a + t)) (hk : k ≤ m) (he : m ≤ k ∨ ¬ (a + k < T ∧ nI 48 ≤ S (a + k) ∧ S (a + k) ≤ nI 57)) : eon S T a m = a + k := by
  rw [eon, if_neg h0, rnn_k m k h hk]
  exact rnn_z (he.elim (fun q => Or.inl (by omega)) Or.inr)
theorem eon_0 {S : Nat → Int32} {T a m k : Nat} (h0 : sgn S T a 48) (hk : k = 1) (h : dgt S T a) : eon S T a m = a + k := by
  rw [eon, if_pos h0, rnn_s (by omega) h, hk]
  exact rnn_z (Or.inl rfl)

theorem if_cg {P Q : Prop} {hp : Decidable P} [hq : Decidable Q] (h : P ↔ Q) : (@ite Int32 P hp 1 0) = @ite Int32 Q hq 1 0 := by
  by_cases p : P
  · rw [if_pos p, if_pos (h.mp p)]
  · rw [if_neg p, if_neg (fun q => p (h.mpr q))]

theorem gs_row {G : Nat → Nat → Int32} {k f g : Nat} {x : Int32} (h : g ≠ f) : gs G k f x k g = G k g := by simp [gs, h]
set_option maxHeartbeats 4000000 in
set_option maxRecDepth 100000 in
theorem c_X7_isHere (l : Launch) {D : va_G} {τ : Nat → ClassId} {ad : Nat → Nat} (hI : kInj ad) {G : Nat → Nat → Int32} {T a b c : Nat} (hT : G 0 5 = nI T) (hT6 : T ≤ 60) (ha0 : G 0 6 = nI a) (ha : a < 90) : kM l yX7_isHere cX7_isHere 3 (some .boolean) { frames := 1, cells := 0, slots := 0, locals := 22 } D τ ad [.ref (ad 0), .int (nI b), .int (nI c)] G (fun v G' => v = (if a < T ∧ nI b ≤ G 3 a ∧ G 3 a ≤ nI c then 1 else 0) ∧ G' = G) := by
  refine kMetZ (own := RX7) (by decide) rfl (Nat.le_of_ble_eq_true rfl) ?_
  intro p9 e9 s9 m9 args9 below9 meth9 c9 Q9 X hx hb hP hS hret ls hl
  have hPs := hP
  have hl : lv_has ls 3 [(0, .ref (ad 0)), (1, .int (nI b)), (2, .int (nI c))] := hl
  refine lv_aload_n hx hb dX7_isHere_0 rfl (lv_at hl 0 rfl) ?_
  refine kget X hP oJ g_X7_148 (congrArg (fun z => some (Value.int z)) ha0) dX7_isHere_1 ?_
  refine lv_aload_n hx hb dX7_isHere_4 rfl (lv_at hl 0 rfl) ?_
  refine kget X hP oJ g_X7_145 (congrArg (fun z => some (Value.int z)) hT) dX7_isHere_5 ?_
  first
    | refine kic_ge (tgt := 32) hx hb dX7_isHere_8 (by decide) (by with_reducible rfl) (by with_reducible rfl) (by omega) (by omega) (fun c_8 => ?_) (fun c_8 => ?_)
    | refine lv_icmp_ge (tgt := 32) hx hb dX7_isHere_8 (by decide) (fun c_8 => ?_) (fun c_8 => ?_)
  · skip
    refine lv_iconst (v := nI 0) hx hb dX7_isHere_32 (by decide) ?_
    exact hret _ _ _ _ _ _ (by decide) (⟨(if_neg (fun z => absurd z.1 (by omega))).symm, rfl⟩) hP hS dX7_isHere_33
  · skip
    refine lv_aload_n hx hb dX7_isHere_11 rfl (lv_at hl 0 rfl) ?_
    refine kget X hP oJ g_X7_16 rfl dX7_isHere_12 ?_
    refine lv_aload_n hx hb dX7_isHere_15 rfl (lv_at hl 0 rfl) ?_
    refine kget X hP oJ g_X7_148 (congrArg (fun z => some (Value.int z)) ha0) dX7_isHere_16 ?_
    refine kiald X hP aJ3 (by omega) dX7_isHere_19 ?_
    refine lv_iload_n hx hb dX7_isHere_20 rfl (lv_at hl 1 rfl) ?_
    refine lv_iload_n hx hb dX7_isHere_21 rfl (lv_at hl 2 rfl) ?_
    refine kcS X hP hS (c_X7_isIn l hI) v_X7_28 ⟨Nat.le_of_ble_eq_true rfl, Nat.le_of_ble_eq_true rfl, rfl, rfl⟩ rfl rfl (Nat.le_of_ble_eq_true rfl) hl.1 ⟨Nat.zero_le _, Nat.zero_le _⟩ dX7_isHere_22 (fun r_22 G_22 H locs hR hP hS => ?_)
    obtain ⟨rfl, hG_22⟩ := hR
    rw [hG_22] at hP
    clear hG_22
    first
      | refine kif_eq (tgt := 32) hx hb dX7_isHere_25 (by decide) (fun c_25 => ?_) (fun c_25 => ?_)
      | refine lv_if_eq (tgt := 32) hx hb dX7_isHere_25 (by decide) (fun c_25 => ?_) (fun c_25 => ?_)
    · skip
      refine lv_iconst (v := nI 0) hx hb dX7_isHere_32 (by decide) ?_
      exact hret _ _ _ _ _ _ (by decide) (⟨(if_neg (fun z => c_25 z.2)).symm, rfl⟩) hP hS dX7_isHere_33
    · skip
      refine lv_iconst (v := nI 1) hx hb dX7_isHere_28 (by decide) ?_
      refine lv_goto (tgt := 33) hx hb dX7_isHere_29 (by decide) ?_
      exact hret _ _ _ _ _ _ (by decide) (⟨(if_pos (And.intro c_8 c_25)).symm, rfl⟩) hP hS dX7_isHere_33

set_option maxHeartbeats 4000000 in
set_option maxRecDepth 100000 in
theorem c_X7_passesNumber (l : Launch) {D : va_G} {τ : Nat → ClassId} {ad : Nat → Nat} (hI : kInj ad) {G : Nat → Nat → Int32} {T a m : Nat} (hT : G 0 5 = nI T) (hT6 : T ≤ 60) (ha0 : G 0 6 = nI a) (ha : a < 90) (hm : 1 ≤ m ∧ m ≤ 4) : kM l yX7_passesNumber cX7_passesNumber 4 (some .boolean) { frames := 2, cells := 0, slots := 0, locals := 44 } D τ ad [.ref (ad 0), .int (nI m)] G (fun v G' => v = (if dgt (G 3) T a then 1 else 0) ∧ (¬ dgt (G 3) T a → G' = G) ∧ (dgt (G 3) T a → (∀ q, q ≠ 0 → G' q = G q) ∧ (∀ f, f ≠ 6 → f ≠ 7 → G' 0 f = G 0 f) ∧ G' 0 6 = nI (eon (G 3) T a m) ∧ G' 0 7 = nmF (G 3) a (eon (G 3) T a m - a))) := by
  refine kMetZ (own := RX7) (by decide) rfl (Nat.le_of_ble_eq_true rfl) ?_
  intro p9 e9 s9 m9 args9 below9 meth9 c9 Q9 X hx hb hP hS hret ls hl
  have hPs := hP
  have hl : lv_has ls 4 [(0, .ref (ad 0)), (1, .int (nI m))] := hl
  refine lv_aload_n hx hb dX7_passesNumber_0 rfl (lv_at hl 0 rfl) ?_
  refine lv_bipush (v := nI 48) hx hb dX7_passesNumber_1 (by decide) ?_
  refine lv_bipush (v := nI 57) hx hb dX7_passesNumber_3 (by decide) ?_
  refine kcV X hP hS (c_X7_isHere l hI hT hT6 ha0 ha) oJ v_X7_151 ⟨Nat.le_of_ble_eq_true rfl, Nat.le_of_ble_eq_true rfl, rfl, rfl⟩ rfl rfl (Nat.le_of_ble_eq_true rfl) hl.1 ⟨Nat.zero_le _, Nat.zero_le _⟩ dX7_passesNumber_5 (fun r_5 G_5 H locs hR hP hS => ?_)
  obtain ⟨rfl, hG_5⟩ := hR
  rw [hG_5] at hP
  clear hG_5
  first
    | refine kif_ne (tgt := 13) hx hb dX7_passesNumber_8 (by decide) (fun c_8 => ?_) (fun c_8 => ?_)
    | refine lv_if_ne (tgt := 13) hx hb dX7_passesNumber_8 (by decide) (fun c_8 => ?_) (fun c_8 => ?_)
  · skip
    refine lv_aload_n hx hb dX7_passesNumber_13 rfl (lv_at hl 0 rfl) ?_
    refine kget X hP oJ g_X7_16 rfl dX7_passesNumber_14 ?_
    refine lv_aload_n hx hb dX7_passesNumber_17 rfl (lv_at hl 0 rfl) ?_
    refine kget X hP oJ g_X7_148 (congrArg (fun z => some (Value.int z)) ha0) dX7_passesNumber_18 ?_
    refine kiald X hP aJ3 (by have := c_8.1; omega) dX7_passesNumber_21 ?_
    refine lv_bipush (v := nI 48) hx hb dX7_passesNumber_22 (by decide) ?_
    refine lv_isub hx hb dX7_passesNumber_24 ?_
    obtain ⟨d, hd9, hdS⟩ := dgt_d (show dgt (G 3) T a from c_8)
    rw [hdS, dig_v]
    have hnv : d = nv (G 3) a 1 := by rw [nv, nv, Nat.add_zero, hdS, nI_clamp (by omega)]; omega
    refine kist hx hb dX7_passesNumber_25 rfl hl (by decide) (kp_2_2 rfl) (fun ls hl => ?_)
    refine lv_aload_n hx hb dX7_passesNumber_26 rfl (lv_at hl 0 rfl) ?_
    refine lv_dup hx hb dX7_passesNumber_27 rfl ?_
    refine kget X hP oJ g_X7_148 (congrArg (fun z => some (Value.int z)) ha0) dX7_passesNumber_28 ?_
    refine lv_iconst (v := nI 1) hx hb dX7_passesNumber_31 (by decide) ?_
    first
      | refine kadd hx hb dX7_passesNumber_32 (by with_reducible rfl) (by with_reducible rfl) ?_
      | refine lv_iadd hx hb dX7_passesNumber_32 ?_
    refine kput X hI hP hS oJ g_X7_148 (fun _ => rfl) rfl (fun _ => Nat.le_of_ble_eq_true rfl) rfl rfl dX7_passesNumber_33 (fun H locs hP hS => ?_)
    refine lv_iconst (v := nI 1) hx hb dX7_passesNumber_36 (by decide) ?_
    refine kist hx hb dX7_passesNumber_37 rfl hl (by decide) (kp_3_3 rfl) (fun ls hl => ?_)
    have lp_38 : ∀ (d : Nat) (x k : Nat) (G1 : Nat → Nat → Int32) (H : Heap) (locs : List Loc) (ls : Array Slot), (m - k) < d → (1 ≤ k ∧ k ≤ m ∧ a + k ≤ T) → (∀ t, t < k → dgt (G 3) T (a + t)) → (∀ q, q ≠ 0 → G1 q = G q) → (∀ f, f ≠ 6 → G1 0 f = G 0 f) → (G1 0 6 = nI (a + k)) → (x = nv (G 3) a k ∧ x < 10 ^ k) → (x = 0 → k = 1 ∧ sgn (G 3) T a 48) → (0 < x → ¬ sgn (G 3) T a 48) → va_P D vwCl (kW τ ad G1) H → va_S (kAd ad) s9.heap H locs → lv_has ls 4 [(0, .ref (ad 0)), (1, .int (nI m)), (2, .int (nI x)), (3, .int (nI k))] → W p9 l e9 { frames := 2, cells := 0, slots := 0, locals := 44 } s9 m9 args9 below9 meth9 c9 H locs 0 0 Q9 (F0 m9 38 ls []) := by
      intro d
      induction d with
      | zero => exact fun _ _ _ _ _ _ hd => absurd hd (Nat.not_lt_zero _)
      | succ d ih_38 =>
        intro x k G1 H locs ls hd iv_0 iv_1 iv_2 iv_3 iv_4 iv_5 iv_6 iv_7 hP hS hl
        refine lv_iload_n hx hb dX7_passesNumber_38 rfl (lv_at hl 3 rfl) ?_
        refine lv_iload_n hx hb dX7_passesNumber_39 rfl (lv_at hl 1 rfl) ?_
        first
          | refine kic_ge (tgt := 92) hx hb dX7_passesNumber_40 (by decide) (by with_reducible rfl) (by with_reducible rfl) (by omega) (by omega) (fun c_40 => ?_) (fun c_40 => ?_)
          | refine lv_icmp_ge (tgt := 92) hx hb dX7_passesNumber_40 (by decide) (fun c_40 => ?_) (fun c_40 => ?_)
        · skip
          refine lv_aload_n hx hb dX7_passesNumber_92 rfl (lv_at hl 0 rfl) ?_
          refine lv_iload_n hx hb dX7_passesNumber_93 rfl (lv_at hl 2 rfl) ?_
          refine kput X hI hP hS oJ g_X7_154 (fun _ => rfl) rfl (fun _ => Nat.le_of_ble_eq_true rfl) rfl rfl dX7_passesNumber_94 (fun H locs hP hS => ?_)
          refine lv_iconst (v := nI 1) hx hb dX7_passesNumber_97 (by decide) ?_
          exact hret _ _ _ _ _ _ (by decide) (by
                  have he : eon (G 3) T a m = a + k := (by
                    rcases Nat.eq_zero_or_pos x with q | q
                    · exact eon_0 (iv_6 q).2 (iv_6 q).1 (by have := iv_1 0 (by omega); rw [Nat.add_zero] at this; exact this)
                    · exact eon_k (iv_7 q) iv_1 (by omega) (Or.inl (by omega)))
                  have hd0 : dgt (G 3) T a := (by have := iv_1 0 (by omega); rw [Nat.add_zero] at this; exact this)
                  refine ⟨(if_pos hd0).symm, fun z => absurd hd0 z, fun _ => ⟨fun q hq => by rw [gs_other hq]; exact iv_2 q hq, fun f h1 h2 => by simp [gs, h2]; exact iv_3 f h1, by simp [gs, he]; exact iv_4, ?_⟩⟩
                  · rw [he, show a + k - a = k by omega, nmF_nv k iv_1]; simp [gs, iv_5.1]) hP hS dX7_passesNumber_98
        · skip
          refine lv_iload_n hx hb dX7_passesNumber_43 rfl (lv_at hl 2 rfl) ?_
          refine lv_if_le (tgt := 92) hx hb dX7_passesNumber_44 (by decide) (fun c_44 => ?_) (fun c_44 => ?_)
          · skip
            have hx0 : x = 0 := by
              rcases Nat.eq_zero_or_pos x with q | q
              · exact q
              · exact absurd c_44 (nI_nle q (by have := iv_5.2; have := Nat.pow_le_pow_right (show 0 < 10 by omega) (show k ≤ 4 by omega); omega))
            refine lv_aload_n hx hb dX7_passesNumber_92 rfl (lv_at hl 0 rfl) ?_
            refine lv_iload_n hx hb dX7_passesNumber_93 rfl (lv_at hl 2 rfl) ?_
            refine kput X hI hP hS oJ g_X7_154 (fun _ => rfl) rfl (fun _ => Nat.le_of_ble_eq_true rfl) rfl rfl dX7_passesNumber_94 (fun H locs hP hS => ?_)
            refine lv_iconst (v := nI 1) hx hb dX7_passesNumber_97 (by decide) ?_
            exact hret _ _ _ _ _ _ (by decide) (by
                    have he : eon (G 3) T a m = a + k := (eon_0 (iv_6 hx0).2 (iv_6 hx0).1 (by have := iv_1 0 (by omega); rw [Nat.add_zero] at this; exact this))
                    have hd0 : dgt (G 3) T a := (by have := iv_1 0 (by omega); rw [Nat.add_zero] at this; exact this)
                    refine ⟨(if_pos hd0).symm, fun z => absurd hd0 z, fun _ => ⟨fun q hq => by rw [gs_other hq]; exact iv_2 q hq, fun f h1 h2 => by simp [gs, h2]; exact iv_3 f h1, by simp [gs, he]; exact iv_4, ?_⟩⟩
                    · rw [he, show a + k - a = k by omega, nmF_nv k iv_1]; simp [gs, iv_5.1]) hP hS dX7_passesNumber_98
          · skip
            have hx0 : 0 < x := by
              rcases Nat.eq_zero_or_pos x with q | q
              · rw [q] at c_44; exact absurd (by decide) c_44
              · exact q
            refine lv_aload_n hx hb dX7_passesNumber_47 rfl (lv_at hl 0 rfl) ?_
            refine lv_bipush (v := nI 48) hx hb dX7_passesNumber_48 (by decide) ?_
            refine lv_bipush (v := nI 57) hx hb dX7_passesNumber_50 (by decide) ?_
            refine kcV X hP hS (c_X7_isHere l hI (T := T) (a := a + k) (by rw [iv_3 _ (by omega)]; exact hT) hT6 iv_4 (by omega)) oJ v_X7_151 ⟨Nat.le_of_ble_eq_true rfl, Nat.le_of_ble_eq_true rfl, rfl, rfl⟩ rfl rfl (Nat.le_of_ble_eq_true rfl) hl.1 ⟨Nat.zero_le _, Nat.zero_le _⟩ dX7_passesNumber_52 (fun r_52 G_52 H locs hR hP hS => ?_)
            obtain ⟨rfl, hG_52⟩ := hR
            rw [hG_52] at hP
            clear hG_52
            rw [iv_2 3 (by omega)]
            first
              | refine kif_eq (tgt := 92) hx hb dX7_passesNumber_55 (by decide) (fun c_55 => ?_) (fun c_55 => ?_)
              | refine lv_if_eq (tgt := 92) hx hb dX7_passesNumber_55 (by decide) (fun c_55 => ?_) (fun c_55 => ?_)
            · skip
              refine lv_aload_n hx hb dX7_passesNumber_92 rfl (lv_at hl 0 rfl) ?_
              refine lv_iload_n hx hb dX7_passesNumber_93 rfl (lv_at hl 2 rfl) ?_
              refine kput X hI hP hS oJ g_X7_154 (fun _ => rfl) rfl (fun _ => Nat.le_of_ble_eq_true rfl) rfl rfl dX7_passesNumber_94 (fun H locs hP hS => ?_)
              refine lv_iconst (v := nI 1) hx hb dX7_passesNumber_97 (by decide) ?_
              exact hret _ _ _ _ _ _ (by decide) (by
                      have he : eon (G 3) T a m = a + k := (eon_k (iv_7 hx0) iv_1 (by omega) (Or.inr c_55))
                      have hd0 : dgt (G 3) T a := (by have := iv_1 0 (by omega); rw [Nat.add_zero] at this; exact this)
                      refine ⟨(if_pos hd0).symm, fun z => absurd hd0 z, fun _ => ⟨fun q hq => by rw [gs_other hq]; exact iv_2 q hq, fun f h1 h2 => by simp [gs, h2]; exact iv_3 f h1, by simp [gs, he]; exact iv_4, ?_⟩⟩
                      · rw [he, show a + k - a = k by omega, nmF_nv k iv_1]; simp [gs, iv_5.1]) hP hS dX7_passesNumber_98
            · skip
              refine lv_bipush (v := nI 10) hx hb dX7_passesNumber_58 (by decide) ?_
              refine lv_iload_n hx hb dX7_passesNumber_60 rfl (lv_at hl 2 rfl) ?_
              refine lv_imul hx hb dX7_passesNumber_61 ?_
              refine lv_aload_n hx hb dX7_passesNumber_62 rfl (lv_at hl 0 rfl) ?_
              refine kget X hP oJ g_X7_16 rfl dX7_passesNumber_63 ?_
              refine lv_aload_n hx hb dX7_passesNumber_66 rfl (lv_at hl 0 rfl) ?_
              refine kget X hP oJ g_X7_148 (congrArg (fun z => some (Value.int z)) iv_4) dX7_passesNumber_67 ?_
              refine kiald X hP aJ3 (by have := c_55.1; omega) dX7_passesNumber_70 ?_
              rw [iv_2 3 (by omega)]
              refine lv_iadd hx hb dX7_passesNumber_71 ?_
              refine lv_bipush (v := nI 48) hx hb dX7_passesNumber_72 (by decide) ?_
              refine lv_isub hx hb dX7_passesNumber_74 ?_
              rw [nv_s2 iv_5.1 c_55]
              refine kist hx hb dX7_passesNumber_75 rfl hl (by decide) (kp_4_2 rfl) (fun ls hl => ?_)
              refine lv_aload_n hx hb dX7_passesNumber_76 rfl (lv_at hl 0 rfl) ?_
              refine lv_dup hx hb dX7_passesNumber_77 rfl ?_
              refine kget X hP oJ g_X7_148 (congrArg (fun z => some (Value.int z)) iv_4) dX7_passesNumber_78 ?_
              refine lv_iconst (v := nI 1) hx hb dX7_passesNumber_81 (by decide) ?_
              first
                | refine kadd hx hb dX7_passesNumber_82 (by with_reducible rfl) (by with_reducible rfl) ?_
                | refine lv_iadd hx hb dX7_passesNumber_82 ?_
              refine kput X hI hP hS oJ g_X7_148 (fun _ => rfl) rfl (fun _ => Nat.le_of_ble_eq_true rfl) rfl rfl dX7_passesNumber_83 (fun H locs hP hS => ?_)
              first
                | refine kinc (q := 3) hx hb dX7_passesNumber_86 hl rfl (by decide) (kp_4_3 rfl) (fun ls hl => ?_)
                | refine kincG (q := 3) hx hb dX7_passesNumber_86 hl rfl (by decide) (kp_4_3 rfl) (fun ls hl => ?_)
              refine lv_goto (tgt := 38) hx hb dX7_passesNumber_89 (by decide) ?_
              exact ih_38 _ _ _ _ _ _ (by omega) (⟨by omega, by omega, by have := c_55.1; omega⟩) (fun t ht => by
                    rcases Nat.lt_or_ge t k with q | q
                    · exact iv_1 t q
                    · rw [show t = k by omega]; exact c_55) (fun q hq => by rw [gs_other hq]; exact iv_2 q hq) (fun f hf => by simp [gs, hf]; exact iv_3 f hf) (by simp [gs]; congr 1) (⟨rfl, nv_lt iv_5 c_55⟩) (fun z => absurd z (by have := nv_pos iv_5.1 hx0 c_55; omega)) (fun _ => iv_7 hx0) hP hS (lv_sub hl [0,1,2,3] rfl)
    exact lp_38 _ d 1 _ _ _ _ (Nat.lt_succ_self _) (⟨Nat.le_refl _, hm.1, by have := c_8.1; omega⟩) (fun t ht => by rw [show a + t = a by omega]; exact c_8) (fun q hq => gs_other hq) (fun f hf => by simp [gs, hf]) (by simp [gs]) (⟨hnv, by omega⟩) (fun z => ⟨rfl, c_8.1, by rw [hdS, z]⟩) (fun z q => by
          have e := q.2
          rw [hdS] at e
          have := (nI_eq (by omega) (by omega)).mp e
          omega) hP hS (lv_sub hl [0,1,2,3] rfl)
  · skip
    refine lv_iconst (v := nI 0) hx hb dX7_passesNumber_11 (by decide) ?_
    exact hret _ _ _ _ _ _ (by decide) (⟨(if_neg c_8).symm, fun _ => rfl, fun z => absurd z c_8⟩) hP hS dX7_passesNumber_12

set_option maxHeartbeats 4000000 in
set_option maxRecDepth 100000 in
theorem c_X7_passesSign (l : Launch) {D : va_G} {τ : Nat → ClassId} {ad : Nat → Nat} (hI : kInj ad) {G : Nat → Nat → Int32} {T a b : Nat} (hT : G 0 5 = nI T) (hT6 : T ≤ 60) (ha0 : G 0 6 = nI a) (ha : a < 90) : kM l yX7_passesSign cX7_passesSign 3 (some .boolean) { frames := 2, cells := 0, slots := 0, locals := 44 } D τ ad [.ref (ad 0), .int (nI b)] G (fun v G' => v = (if sgn (G 3) T a b then 1 else 0) ∧ G' = gs G 0 6 (nI (if sgn (G 3) T a b then a + 1 else a))) := by
  refine kMetZ (own := RX7) (by decide) rfl (Nat.le_of_ble_eq_true rfl) ?_
  intro p9 e9 s9 m9 args9 below9 meth9 c9 Q9 X hx hb hP hS hret ls hl
  have hPs := hP
  have hl : lv_has ls 3 [(0, .ref (ad 0)), (1, .int (nI b))] := hl
  refine lv_aload_n hx hb dX7_passesSign_0 rfl (lv_at hl 0 rfl) ?_
  refine lv_iload_n hx hb dX7_passesSign_1 rfl (lv_at hl 1 rfl) ?_
  refine lv_iload_n hx hb dX7_passesSign_2 rfl (lv_at hl 1 rfl) ?_
  refine kcV X hP hS (c_X7_isHere l hI hT hT6 ha0 ha) oJ v_X7_151 ⟨Nat.le_of_ble_eq_true rfl, Nat.le_of_ble_eq_true rfl, rfl, rfl⟩ rfl rfl (Nat.le_of_ble_eq_true rfl) hl.1 ⟨Nat.zero_le _, Nat.zero_le _⟩ dX7_passesSign_3 (fun r_3 G_3 H locs hR hP hS => ?_)
  obtain ⟨rfl, hG_3⟩ := hR
  rw [hG_3] at hP
  clear hG_3
  rw [if_cg (sgn_2 (S := G 3) (T := T) (a := a) (s := b))]
  refine kist hx hb dX7_passesSign_6 rfl hl (by decide) (kp_2_2 rfl) (fun ls hl => ?_)
  refine lv_aload_n hx hb dX7_passesSign_7 rfl (lv_at hl 0 rfl) ?_
  refine lv_dup hx hb dX7_passesSign_8 rfl ?_
  refine kget X hP oJ g_X7_148 (congrArg (fun z => some (Value.int z)) ha0) dX7_passesSign_9 ?_
  refine lv_iload_n hx hb dX7_passesSign_12 rfl (lv_at hl 2 rfl) ?_
  first
    | refine kif_eq (tgt := 20) hx hb dX7_passesSign_13 (by decide) (fun c_13 => ?_) (fun c_13 => ?_)
    | refine lv_if_eq (tgt := 20) hx hb dX7_passesSign_13 (by decide) (fun c_13 => ?_) (fun c_13 => ?_)
  · skip
    refine lv_iconst (v := nI 0) hx hb dX7_passesSign_20 (by decide) ?_
    first
      | refine kadd hx hb dX7_passesSign_21 (by with_reducible rfl) (by with_reducible rfl) ?_
      | refine lv_iadd hx hb dX7_passesSign_21 ?_
    refine kput X hI hP hS oJ g_X7_148 (fun _ => rfl) rfl (fun _ => Nat.le_of_ble_eq_true rfl) rfl rfl dX7_passesSign_22 (fun H locs hP hS => ?_)
    refine lv_iload_n hx hb dX7_passesSign_25 rfl (lv_at hl 2 rfl) ?_
    exact hret _ _ _ _ _ _ (by split <;> decide) (⟨rfl, by rw [if_neg c_13]; rfl⟩) hP hS dX7_passesSign_26
  · skip
    refine lv_iconst (v := nI 1) hx hb dX7_passesSign_16 (by decide) ?_
    refine lv_goto (tgt := 21) hx hb dX7_passesSign_17 (by decide) ?_
    first
      | refine kadd hx hb dX7_passesSign_21 (by with_reducible rfl) (by with_reducible rfl) ?_
      | refine lv_iadd hx hb dX7_passesSign_21 ?_
    refine kput X hI hP hS oJ g_X7_148 (fun _ => rfl) rfl (fun _ => Nat.le_of_ble_eq_true rfl) rfl rfl dX7_passesSign_22 (fun H locs hP hS => ?_)
    refine lv_iload_n hx hb dX7_passesSign_25 rfl (lv_at hl 2 rfl) ?_
    exact hret _ _ _ _ _ _ (by split <;> decide) (⟨rfl, by rw [if_pos c_13]⟩) hP hS dX7_passesSign_26

set_option maxHeartbeats 4000000 in
set_option maxRecDepth 100000 in
theorem c_X7_passesWrite (l : Launch) {D : va_G} {τ : Nat → ClassId} {ad : Nat → Nat} (hI : kInj ad) {G : Nat → Nat → Int32} {T a w : Nat} (hT : G 0 5 = nI T) (hT6 : T ≤ 60) (ha0 : G 0 6 = nI a) (ha : a < 62) (hw8 : G 0 8 = nI w) (hw : w < 30) : kM l yX7_passesWrite cX7_passesWrite 1 (some .boolean) { frames := 3, cells := 0, slots := 0, locals := 67 } D τ ad [.ref (ad 0)] G (fun v G' => (∀ q, q ≠ 0 → q ≠ 4 → q ≠ 5 → G' q = G q) ∧ (∀ f, f ≠ 6 → f ≠ 7 → f ≠ 8 → G' 0 f = G 0 f) ∧ (∀ t, t ≠ w → G' 4 t = G 4 t ∧ G' 5 t = G 5 t) ∧ v = (if ¬ (cE (G 3) T a = a ∨ ¬ sgn (G 3) T (cE (G 3) T a) 61) ∧ ¬ vE (G 3) T a = cE (G 3) T a + 1 then 1 else 0) ∧ ((cE (G 3) T a = a ∨ ¬ sgn (G 3) T (cE (G 3) T a) 61) → G' 0 6 = nI (cE (G 3) T a)) ∧ (¬ (cE (G 3) T a = a ∨ ¬ sgn (G 3) T (cE (G 3) T a) 61) → G' 0 6 = nI (vE (G 3) T a)) ∧ (v = 1 → G' 0 8 = nI (w + 1) ∧ G' 4 w = nmF (G 3) a (cE (G 3) T a - a) ∧ G' 5 w = nmF (G 3) (cE (G 3) T a + 1) (vE (G 3) T a - (cE (G 3) T a + 1)))) := by
  refine kMetZ (own := RX7) (by decide) rfl (Nat.le_of_ble_eq_true rfl) ?_
  intro p9 e9 s9 m9 args9 below9 meth9 c9 Q9 X hx hb hP hS hret ls hl
  have hPs := hP
  have hl : lv_has ls 1 [(0, .ref (ad 0))] := hl
  refine lv_aload_n hx hb dX7_passesWrite_0 rfl (lv_at hl 0 rfl) ?_
  refine lv_iconst (v := nI 2) hx hb dX7_passesWrite_1 (by decide) ?_
  refine kcV X hP hS (c_X7_passesNumber l hI (m := 2) hT hT6 ha0 (by omega) ⟨by omega, by omega⟩) oJ v_X7_157 ⟨Nat.le_of_ble_eq_true rfl, Nat.le_of_ble_eq_true rfl, rfl, rfl⟩ rfl rfl (Nat.le_of_ble_eq_true rfl) hl.1 ⟨Nat.zero_le _, Nat.zero_le _⟩ dX7_passesWrite_2 (fun r_2 G_2 H locs hR hP hS => ?_)
  obtain ⟨rfl, n1, n2⟩ := hR
  have hce := eon_dgt (S := G 3) (T := T) (a := a) (m := 2) (by omega)
  first
    | refine kif_ne (tgt := 10) hx hb dX7_passesWrite_5 (by decide) (fun c_5 => ?_) (fun c_5 => ?_)
    | refine lv_if_ne (tgt := 10) hx hb dX7_passesWrite_5 (by decide) (fun c_5 => ?_) (fun c_5 => ?_)
  · skip
    obtain ⟨n3, n4, n5, n6⟩ := n2 c_5
    obtain ⟨ce, hceq⟩ : ∃ z, z = eon (G 3) T a 2 := ⟨_, rfl⟩
    rw [← hceq] at n5 n6 hce
    have hcE : cE (G 3) T a = ce := hceq.symm
    have hcne : ¬ ce = a := fun z => hce.mp z c_5
    have hcb := eon_b (G 3) T a 2
    rw [← hceq] at hcb
    have q3 : G_2 3 = G 3 := n3 3 (by omega)
    have q5 : G_2 0 5 = nI T := by rw [n4 5 (by omega) (by omega)]; exact hT
    have q8 : G_2 0 8 = nI w := by rw [n4 8 (by omega) (by omega)]; exact hw8
    have q6 : G_2 0 6 = nI ce := n5
    refine lv_aload_n hx hb dX7_passesWrite_10 rfl (lv_at hl 0 rfl) ?_
    refine kget X hP oJ g_X7_19 rfl dX7_passesWrite_11 ?_
    refine lv_aload_n hx hb dX7_passesWrite_14 rfl (lv_at hl 0 rfl) ?_
    refine kget X hP oJ g_X7_160 (congrArg (fun z => some (Value.int z)) q8) dX7_passesWrite_15 ?_
    refine lv_aload_n hx hb dX7_passesWrite_18 rfl (lv_at hl 0 rfl) ?_
    refine kget X hP oJ g_X7_154 (congrArg (fun z => some (Value.int z)) n6) dX7_passesWrite_19 ?_
    refine kiast X hI hP hS aJ4 hw dX7_passesWrite_22 (fun H locs hP hS => ?_)
    refine lv_aload_n hx hb dX7_passesWrite_23 rfl (lv_at hl 0 rfl) ?_
    refine lv_bipush (v := nI 61) hx hb dX7_passesWrite_24 (by decide) ?_
    refine kcV X hP hS (c_X7_passesSign l hI (T := T) (a := ce) (by rw [gs_other (by omega)]; exact q5) hT6 (by rw [gs_other (by omega)]; exact q6) (by omega)) oJ v_X7_162 ⟨Nat.le_of_ble_eq_true rfl, Nat.le_of_ble_eq_true rfl, rfl, rfl⟩ rfl rfl (Nat.le_of_ble_eq_true rfl) hl.1 ⟨Nat.zero_le _, Nat.zero_le _⟩ dX7_passesWrite_26 (fun r_26 G_26 H locs hR hP hS => ?_)
    obtain ⟨rfl, hG_26⟩ := hR
    rw [gs_other (show (3 : Nat) ≠ 4 by omega), q3] at hG_26 ⊢
    first
      | refine kif_eq (tgt := 40) hx hb dX7_passesWrite_29 (by decide) (fun c_29 => ?_) (fun c_29 => ?_)
      | refine lv_if_eq (tgt := 40) hx hb dX7_passesWrite_29 (by decide) (fun c_29 => ?_) (fun c_29 => ?_)
    · skip
      rw [hG_26, if_neg c_29] at hP
      refine lv_iconst (v := nI 0) hx hb dX7_passesWrite_40 (by decide) ?_
      exact hret _ _ _ _ _ _ (by decide) (by
              have hb : cE (G 3) T a = a ∨ ¬ sgn (G 3) T (cE (G 3) T a) 61 := Or.inr (by rw [hcE]; exact c_29)
              exact ⟨fun q h1 h2 h3 => by rw [gs_other h1, gs_other h2]; exact n3 q h1, fun f h1 h2 h3 => by simp [gs, h1]; exact n4 f h1 h2, fun t ht => ⟨by simp [gs, ht]; rw [n3 4 (by omega)], by simp [gs]; rw [n3 5 (by omega)]⟩, (if_neg (fun z => z.1 hb)).symm, fun _ => by rw [hcE]; simp [gs], fun z => absurd hb z, fun z => absurd z (by decide)⟩) hP hS dX7_passesWrite_41
    · skip
      rw [hG_26, if_pos c_29] at hP
      have hlt := c_29.1
      refine lv_aload_n hx hb dX7_passesWrite_32 rfl (lv_at hl 0 rfl) ?_
      refine lv_iconst (v := nI 4) hx hb dX7_passesWrite_33 (by decide) ?_
      refine kcV X hP hS (c_X7_passesNumber l hI (T := T) (a := ce + 1) (m := 4) (by simp [gs]; exact q5) hT6 (by simp [gs]) (by omega) ⟨by omega, by omega⟩) oJ v_X7_157 ⟨Nat.le_of_ble_eq_true rfl, Nat.le_of_ble_eq_true rfl, rfl, rfl⟩ rfl rfl (Nat.le_of_ble_eq_true rfl) hl.1 ⟨Nat.zero_le _, Nat.zero_le _⟩ dX7_passesWrite_34 (fun r_34 G_34 H locs hR hP hS => ?_)
      obtain ⟨rfl, m1, m2⟩ := hR
      rw [gs_other (show (3 : Nat) ≠ 0 by omega), gs_other (show (3 : Nat) ≠ 4 by omega), q3] at m1 m2 ⊢
      have hve := eon_dgt (S := G 3) (T := T) (a := ce + 1) (m := 4) (by omega)
      first
        | refine kif_ne (tgt := 42) hx hb dX7_passesWrite_37 (by decide) (fun c_37 => ?_) (fun c_37 => ?_)
        | refine lv_if_ne (tgt := 42) hx hb dX7_passesWrite_37 (by decide) (fun c_37 => ?_) (fun c_37 => ?_)
      · skip
        obtain ⟨m3, m4, m5, m6⟩ := m2 c_37
        refine lv_aload_n hx hb dX7_passesWrite_42 rfl (lv_at hl 0 rfl) ?_
        refine kget X hP oJ g_X7_22 rfl dX7_passesWrite_43 ?_
        refine lv_aload_n hx hb dX7_passesWrite_46 rfl (lv_at hl 0 rfl) ?_
        refine kget X hP oJ g_X7_160 (congrArg (fun z => some (Value.int z)) (show G_34 0 8 = nI w from by rw [m4 8 (by omega) (by omega)]; simp [gs]; exact q8)) dX7_passesWrite_47 ?_
        refine lv_aload_n hx hb dX7_passesWrite_50 rfl (lv_at hl 0 rfl) ?_
        refine kget X hP oJ g_X7_154 (congrArg (fun z => some (Value.int z)) m6) dX7_passesWrite_51 ?_
        refine kiast X hI hP hS aJ5 hw dX7_passesWrite_54 (fun H locs hP hS => ?_)
        refine lv_aload_n hx hb dX7_passesWrite_55 rfl (lv_at hl 0 rfl) ?_
        refine lv_dup hx hb dX7_passesWrite_56 rfl ?_
        refine kget X hP oJ g_X7_160 (congrArg (fun z => some (Value.int z)) (show gs G_34 5 w _ 0 8 = nI w from by rw [gs_other (by omega), m4 8 (by omega) (by omega)]; simp [gs]; exact q8)) dX7_passesWrite_57 ?_
        refine lv_iconst (v := nI 1) hx hb dX7_passesWrite_60 (by decide) ?_
        first
          | refine kadd hx hb dX7_passesWrite_61 (by with_reducible rfl) (by with_reducible rfl) ?_
          | refine lv_iadd hx hb dX7_passesWrite_61 ?_
        refine kput X hI hP hS oJ g_X7_160 (fun _ => rfl) rfl (fun _ => Nat.le_of_ble_eq_true rfl) rfl rfl dX7_passesWrite_62 (fun H locs hP hS => ?_)
        refine lv_iconst (v := nI 1) hx hb dX7_passesWrite_65 (by decide) ?_
        exact hret _ _ _ _ _ _ (by decide) (by
            have hb : ¬ (cE (G 3) T a = a ∨ ¬ sgn (G 3) T (cE (G 3) T a) 61) := by rw [hcE]; exact fun z => z.elim hcne (fun y => y c_29)
            have hvE : vE (G 3) T a = eon (G 3) T (ce + 1) 4 := by rw [vE, hcE]
            have hv : ¬ vE (G 3) T a = cE (G 3) T a + 1 := by rw [hvE, hcE]; exact fun z => hve.mp z c_37
            refine ⟨fun q h1 h2 h3 => by rw [gs_other h1, gs_other h3, m3 q h1, gs_other h1, gs_other h2]; exact n3 q h1, fun f h1 h2 h3 => by simp only [gs_row h3, gs_other (show (0 : Nat) ≠ 5 by omega), m4 f h1 h2, gs_row h1, gs_other (show (0 : Nat) ≠ 4 by omega)]; exact n4 f h1 h2, fun t ht => ⟨by rw [gs_other (by omega), gs_other (by omega), m3 4 (by omega), gs_other (by omega)]; simp [gs, ht]; rw [n3 4 (by omega)], by rw [gs_other (by omega), gs_row ht, m3 5 (by omega), gs_other (by omega), gs_other (by omega), n3 5 (by omega)]⟩, (if_pos ⟨hb, hv⟩).symm, fun z => absurd z hb, fun _ => by rw [hvE]; simp only [gs_row (show (6 : Nat) ≠ 8 by omega), gs_other (show (0 : Nat) ≠ 5 by omega)]; exact m5, fun _ => ⟨by simp [gs], ?_, ?_⟩⟩
            · rw [gs_other (by omega), gs_other (by omega), m3 4 (by omega), gs_other (by omega), hcE]; simp [gs]
            · rw [gs_other (by omega), hvE, hcE]; simp [gs]) hP hS dX7_passesWrite_66
      · skip
        rw [m1 c_37] at hP
        refine lv_iconst (v := nI 0) hx hb dX7_passesWrite_40 (by decide) ?_
        exact hret _ _ _ _ _ _ (by decide) (by
                have hb : ¬ (cE (G 3) T a = a ∨ ¬ sgn (G 3) T (cE (G 3) T a) 61) := by rw [hcE]; exact fun z => z.elim hcne (fun y => y c_29)
                have hv : vE (G 3) T a = cE (G 3) T a + 1 := by rw [vE, hcE]; exact hve.mpr c_37
                exact ⟨fun q h1 h2 h3 => by rw [gs_other h1, gs_other h2]; exact n3 q h1, fun f h1 h2 h3 => by simp [gs, h1]; exact n4 f h1 h2, fun t ht => ⟨by simp [gs, ht]; rw [n3 4 (by omega)], by simp [gs]; rw [n3 5 (by omega)]⟩, (if_neg (fun z => z.2 hv)).symm, fun z => absurd z hb, fun _ => by rw [hv, hcE]; simp [gs], fun z => absurd z (by decide)⟩) hP hS dX7_passesWrite_41
  · skip
    have e1 : cE (G 3) T a = a := hce.mpr c_5
    rw [n1 c_5] at hP
    refine lv_iconst (v := nI 0) hx hb dX7_passesWrite_8 (by decide) ?_
    exact hret _ _ _ _ _ _ (by decide) (⟨fun _ _ _ _ => rfl, fun _ _ _ _ => rfl, fun _ _ => ⟨rfl, rfl⟩, (if_neg (fun z => z.1 (Or.inl e1))).symm, fun _ => by rw [e1]; exact ha0, fun z => absurd (Or.inl e1) z, fun z => absurd z (by decide)⟩) hP hS dX7_passesWrite_9
