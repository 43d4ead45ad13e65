/-! Counting: sums over numbers, exchanged, of one summand. -/
theorem rm_add (f g : Nat → Nat) (n : Nat) : cn (fun i => f i + g i) n = cn f n + cn g n := by
  induction n with
  | zero => rfl
  | succ n ih => rw [cn, cn, cn, ih]; omega
theorem rm_zero {f : Nat → Nat} {n : Nat} (h : ∀ i, i < n → f i = 0) : cn f n = 0 := by
  induction n with
  | zero => rfl
  | succ n ih => rw [cn, ih (fun i hi => h i (by omega)), h n (by omega)]
theorem rm_swap (f : Nat → Nat → Nat) (n m : Nat) : cn (fun i => cn (fun j => f i j) m) n = cn (fun j => cn (fun i => f i j) n) m := by
  induction n with
  | zero => rw [cn, rm_zero]; intro i _; rfl
  | succ n ih =>
    rw [cn, ih, ← rm_add]
    rfl
theorem rm_one {f : Nat → Nat} {n a : Nat} (ha : a < n) (h : ∀ i, i < n → i ≠ a → f i = 0) : cn f n = f a := by
  induction n with
  | zero => omega
  | succ n ih =>
    rw [cn]
    rcases Nat.lt_or_ge a n with q | q
    · rw [ih q (fun i hi => h i (by omega)), h n (by omega) (by omega)]; omega
    · have e : a = n := by omega
      rw [rm_zero (fun i hi => h i (by omega) (by omega)), e]; omega
theorem rm_mono {f g : Nat → Nat} {n : Nat} (h : ∀ i, i < n → f i ≤ g i) : cn f n ≤ cn g n := by
  induction n with
  | zero => exact Nat.le_refl _
  | succ n ih =>
    have := ih (fun i hi => h i (by omega))
    have := h n (by omega)
    rw [cn, cn]; omega
theorem rm_ex {f : Nat → Nat} {n : Nat} (h : cn f n ≠ 0) : ∃ i, i < n ∧ f i ≠ 0 := by
  induction n with
  | zero => exact absurd rfl h
  | succ n ih =>
    rw [cn] at h
    by_cases q : f n = 0
    · obtain ⟨i, h1, h2⟩ := ih (by omega)
      exact ⟨i, by omega, h2⟩
    · exact ⟨n, by omega, q⟩
theorem rm_const (n x : Nat) : cn (fun _ => x) n = n * x := by
  induction n with
  | zero => rw [cn]; omega
  | succ n ih => rw [cn, ih, Nat.succ_mul]
theorem rm_split (f : Nat → Nat) (a b : Nat) : cn f (a + b) = cn f a + cn (fun i => f (a + i)) b := by
  induction b with
  | zero => rfl
  | succ b ih => rw [← Nat.add_assoc, cn, ih, cn]; omega
theorem rm_first (f : Nat → Nat) (n : Nat) : cn f (n + 1) = f 0 + cn (fun i => f (i + 1)) n := by
  induction n with
  | zero => rw [cn, cn, cn]; omega
  | succ n ih => rw [cn, ih, cn]; omega
/-- an indicator's count over an injection -/
theorem rm_nI (f : Nat → Nat) (n : Nat) : sm (fun i => nI (f i)) n = nI (cn f n) := by
  induction n with
  | zero => rfl
  | succ n ih => rw [sm, cn, ih, nI_add]
theorem sm_zero {f : Nat → Int32} {n : Nat} (h : ∀ i, i < n → f i = 0) : sm f n = 0 := by
  induction n with
  | zero => rfl
  | succ n ih => rw [sm, ih (fun i hi => h i (by omega)), h n (by omega)]; rfl
theorem sm_add (f g : Nat → Int32) (n : Nat) : sm (fun i => f i + g i) n = sm f n + sm g n := by
  induction n with
  | zero => rfl
  | succ n ih =>
    rw [sm, sm, sm, ih]
    rw [Int32.add_assoc, Int32.add_assoc, ← Int32.add_assoc (sm g n), Int32.add_comm (sm g n), Int32.add_assoc]
theorem sm_swap (f : Nat → Nat → Int32) (n m : Nat) : sm (fun i => sm (fun j => f i j) m) n = sm (fun j => sm (fun i => f i j) n) m := by
  induction n with
  | zero => rw [sm, sm_zero]; intro i _; rfl
  | succ n ih =>
    rw [sm, ih, ← sm_add]
    rfl
theorem sm_one {f : Nat → Int32} {n a : Nat} (ha : a < n) (h : ∀ i, i < n → i ≠ a → f i = 0) : sm f n = f a := by
  induction n with
  | zero => omega
  | succ n ih =>
    rw [sm]
    rcases Nat.lt_or_ge a n with q | q
    · rw [ih q (fun i hi => h i (by omega)), h n (by omega) (by omega), Int32.add_zero]
    · have e : a = n := by omega
      rw [sm_zero (fun i hi => h i (by omega) (by omega)), e, Int32.zero_add]
/-! bits -/
theorem hb_s (x : Int32) (k : Nat) (hk : k < 32) : hw x k ↔ x.toBitVec.getLsbD k = true := by
  have e : ((nI k &&& 31).toBitVec.smod 32).toNat = k := by
    have : ∀ k, k < 32 → ((nI k &&& 31).toBitVec.smod 32).toNat = k := by decide +kernel
    exact this k hk
  have e1 : (x >>> (nI k &&& 31)).toBitVec = x.toBitVec.sshiftRight k := by
    rw [Int32.toBitVec_shiftRight, BitVec.sshiftRight_eq', e]
  unfold hw
  rw [← Int32.toBitVec_inj, Int32.toBitVec_and, e1]
  have e2 : (nI 1).toBitVec = BitVec.ofNat 32 1 := rfl
  have e3 : (0 : Int32).toBitVec = BitVec.ofNat 32 0 := rfl
  rw [e2, e3]
  have key : (x.toBitVec.sshiftRight k &&& BitVec.ofNat 32 1 = BitVec.ofNat 32 0) ↔ (x.toBitVec.sshiftRight k).getLsbD 0 = false := by
    constructor
    · intro h
      have := congrArg (fun z => z.getLsbD 0) h
      simpa using this
    · intro h
      apply BitVec.eq_of_getLsbD_eq
      intro i hi
      rw [BitVec.getLsbD_and]
      by_cases q : i = 0
      · subst q; rw [h]; rfl
      · have : (BitVec.ofNat 32 1).getLsbD i = false := by
          rw [BitVec.getLsbD_ofNat]
          have : Nat.testBit 1 i = false := by
            refine Nat.testBit_lt_two_pow ?_
            have : 2 ^ 1 ≤ 2 ^ i := Nat.pow_le_pow_right (by omega) (by omega)
            omega
          rw [this]; simp
        rw [this]; simp
  rw [key, BitVec.getLsbD_sshiftRight]
  have : ¬ 32 ≤ 0 := by omega
  simp [hk]
theorem hb_or (x y : Int32) (k : Nat) (hk : k < 32) : hw (x ||| y) k ↔ hw x k ∨ hw y k := by
  rw [hb_s _ k hk, hb_s _ k hk, hb_s _ k hk, Int32.toBitVec_or, BitVec.getLsbD_or, Bool.or_eq_true]
theorem hb_and (x y : Int32) (k : Nat) (hk : k < 32) : hw (x &&& y) k ↔ hw x k ∧ hw y k := by
  rw [hb_s _ k hk, hb_s _ k hk, hb_s _ k hk, Int32.toBitVec_and, BitVec.getLsbD_and, Bool.and_eq_true]
theorem hb_bt (q k : Nat) (hq : q < 32) (hk : k < 32) : hw (bt q) k ↔ q = k := by
  have : ∀ q, q < 32 → ∀ k, k < 32 → (hw (bt q) k ↔ q = k) := by decide +kernel
  exact this q hq k hk
theorem hb_m2 (k : Nat) (hk : k < 32) : hw (-2) k ↔ k ≠ 0 := by
  have : ∀ k, k < 32 → (hw (-2) k ↔ k ≠ 0) := by decide +kernel
  exact this k hk
theorem hb_so {f : Nat → Int32} {n k : Nat} (hk : k < 32) : hw (so f n) k ↔ ∃ i, i < n ∧ hw (f i) k := by
  induction n with
  | zero => exact ⟨fun h => absurd h (hw_0 hk), fun ⟨i, h, _⟩ => absurd h (by omega)⟩
  | succ n ih =>
    rw [so, hb_or _ _ k hk, ih]
    constructor
    · rintro (⟨i, h1, h2⟩ | h)
      · exact ⟨i, by omega, h2⟩
      · exact ⟨n, by omega, h⟩
    · rintro ⟨i, h1, h2⟩
      rcases Nat.lt_or_ge i n with q | q
      · exact Or.inl ⟨i, q, h2⟩
      · exact Or.inr (by rw [show n = i by omega]; exact h2)
/-- small numbers stay small -/
def sml (x : Int32) (m : Nat) : Prop := ∃ a, a < 2 ^ m ∧ x = nI a
theorem nI_or (a b : Nat) (ha : a < 2 ^ 32) (hb : b < 2 ^ 32) : nI a ||| nI b = nI (a ||| b) := by
  rw [← Int32.toBitVec_inj, Int32.toBitVec_or]
  apply BitVec.eq_of_toNat_eq
  rw [BitVec.toNat_or, pk_tn ha, pk_tn hb, pk_tn (Nat.or_lt_two_pow ha hb)]
theorem sml_or {x y : Int32} {m : Nat} (hm : m ≤ 31) (hx : sml x m) (hy : sml y m) : sml (x ||| y) m := by
  obtain ⟨a, ha, rfl⟩ := hx
  obtain ⟨b, hb, rfl⟩ := hy
  have h2 : 2 ^ m ≤ 2 ^ 32 := Nat.pow_le_pow_right (by omega) (by omega)
  exact ⟨a ||| b, Nat.or_lt_two_pow ha hb, nI_or a b (by omega) (by omega)⟩
theorem sml_bt {q m : Nat} (h : q < m) (hm : m ≤ 31) : sml (bt q) m := by
  have key : ∀ q, q < 31 → bt q = nI (2 ^ q) := by decide +kernel
  exact ⟨2 ^ q, Nat.pow_lt_pow_right (by omega) h, key q (by omega)⟩
theorem sml_0 (m : Nat) : sml 0 m := ⟨0, Nat.two_pow_pos m, rfl⟩
theorem sml_so {f : Nat → Int32} {n m : Nat} (hm : m ≤ 31) (h : ∀ i, i < n → sml (f i) m) : sml (so f n) m := by
  induction n with
  | zero => exact sml_0 m
  | succ n ih => exact sml_or hm (ih (fun i hi => h i (by omega))) (h n (by omega))
/-- how many of the first m bits are set -/
def bcn (x : Int32) (m : Nat) : Nat := cn (fun k => if hw x k then 1 else 0) m
theorem bc_10 {x : Int32} (h : sml x 10) : bcF x = nI (bcn x 10) := by
  have key : ∀ a, a < 1024 → bcF (nI a) = nI (bcn (nI a) 10) := by decide +kernel
  obtain ⟨a, ha, rfl⟩ := h
  exact key a ha
theorem bc_ones {x : Int32} (h : sml x 12) : bcF x = sm (fun k => x >>> (nI k &&& 31) &&& nI 1) 12 := by
  have key : ∀ a, a < 64 → ∀ b, b < 64 → bcF (nI (64 * a + b)) = sm (fun k => nI (64 * a + b) >>> (nI k &&& 31) &&& nI 1) 12 := by decide +kernel
  obtain ⟨a, ha, rfl⟩ := h
  have := key (a / 64) (by omega) (a % 64) (by omega)
  rw [show 64 * (a / 64) + a % 64 = a by omega] at this
  exact this
