/-! What an act may change, and what it leaves. -/
theorem nZ_of2 {n : Nat} (hn : n < 2 ^ 31) : nZ (nI n) = n := nI_clamp hn
def STEP (N N' : Nat → Int32) (put d : Nat) : Prop :=
  d ≤ 9999 ∧ INV N' (nZ (N' 2)) (nZ (N' 8)) (put + d) ∧ nZ (N 2) ≤ nZ (N' 2) ∧ (N' 0 = N 0 ∨ N' 0 = N 0 + nI 1) ∧
  ∀ r, r < nZ (N 2) → N' (9 + 20 * r + 2) = 0 → N (9 + 20 * r + 2) = 0 ∧ ∀ c, c < 12 → VSN N' (nZ (N' 8)) r c = VSN N (nZ (N 8)) r c
def OKS (N : Nat → Int32) (put d : Nat) (st : Int32 × Option (Nat → Int32)) : Prop := (st.2 = none → st.1 < 0) ∧ ∀ N', st.2 = some N' → ¬ st.1 < 0 ∧ STEP N N' put d
theorem ok_e {N : Nat → Int32} {put d : Nat} {v : Int32} (h : v < 0) : OKS N put d (v, none) := ⟨fun _ => h, fun _ z => by cases z⟩
theorem ok_a {N N' : Nat → Int32} {put d : Nat} {v : Int32} (h : ¬ v < 0) (hs : STEP N N' put d) : OKS N put d (v, some N') := ⟨(fun z => by cases z), (fun _ z => by cases z; exact ⟨h, hs⟩)⟩
theorem ok_rd {N : Nat → Int32} {put d n : Nat} {x v : Int32} {f : Nat → Int32 × Option (Nat → Int32)} (hn : n ≤ 40) (hv : v < 0) (h : ∀ r, r < n → x = nI r → OKS N put d (f r)) : OKS N put d (rdS n x f (v, none)) := by
  by_cases z : ∃ r, r < n ∧ x = nI r
  · obtain ⟨r, r1, r2⟩ := z
    rw [rdS_h r1 hn r2]
    exact h r r1 r2
  · rw [rdS_m hn (fun r a b => z ⟨r, a, b⟩)]
    exact ok_e hv
theorem cn_at {f : Nat → Nat} {n r a : Nat} (hr : r < n) : cn (fun t => if t = r then f r + a else f t) n = cn f n + a := by
  have e : cn (fun t => if t = r then f r + a else f t) n = cn (fun t => f t + (if t = r then a else 0)) n := cn_congr (fun t _ => by
    by_cases z : t = r
    · rw [if_pos z, if_pos z, z]
    · rw [if_neg z, if_neg z]; rfl)
  rw [e, rm_add, rm_one (f := fun t => if t = r then a else 0) hr (fun t _ hne => if_neg hne), if_pos rfl]
section STEPS
variable {G : Nat → Nat → Int32} {N N' : Nat → Int32} {n k W put d : Nat} {P : Nat → Nat} {mo : Nat → Nat → Nat} {ow : Nat → Nat} {vx : Nat → Nat → Nat}
theorem step_same (h2 : N 2 = nI n) (hn : n ≤ 40) (h8 : N 8 = nI W) (hW : 1 ≤ W ∧ W ≤ 52) (e2 : N' 2 = N 2) (e8 : N' 8 = N 8) (e0 : N' 0 = N 0) (hT : ∀ f, 809 ≤ f → f < 1001 → N' f = N f) (hr : ∀ r, r < n → N' (9 + 20 * r + 0) = N (9 + 20 * r + 0) ∧ N' (9 + 20 * r + 2) = N (9 + 20 * r + 2)) (hI : INV N' n W (put + d)) (hd : d ≤ 9999) : STEP N N' put d := by
  unfold STEP
  rw [e2, e8, e0, nZ_of h2 (by omega), nZ_of h8 (by omega)]
  exact ⟨hd, hI, Nat.le_refl _, Or.inl rfl, fun r r1 r2 => ⟨by rw [← (hr r r1).2]; exact r2, fun c hc => VSN_cg (by omega) hW.1 hT (hr r r1).1⟩⟩
/-- what the relation gives of the numbers -/
theorem cur_k (hC : CurR G 0 N n k W P mo ow vx) : N 2 = nI n ∧ n ≤ 40 ∧ N 8 = nI W ∧ (1 ≤ W ∧ W ≤ 52) ∧ N 6 = nI k ∧ k ≤ 40 ∧ N 0 = nI k ∧ nZ (N 2) = n ∧ nZ (N 8) = W ∧ nZ (N 6) = k := by
  obtain ⟨s1, s2, s3, s4, s5, s6, s7, s8, s9, s10, s11, s12⟩ := cu_sc hC.1
  have hn4 := (cu_ab hC.1).2.2.2.1
  have hk := hC.2.1.1
  have hW : 1 ≤ W := by have := ((cu_tb hC.1).1 0 0 (by omega) (cu_1 hC.1 (by omega)) trivial).1; omega
  have hW5 := hC.2.1.2.2
  exact ⟨s5, hn4, s11, ⟨hW, hW5⟩, s7, by omega, (cu_ab hC.1).2.1, nZ_of s5 (by omega), nZ_of s11 (by omega), nZ_of s7 (by omega)⟩
theorem sx_pay (hC : CurR G 0 N n k W P mo ow vx) (hI : INV N n W put) (x y : Int32) : OKS N put (nZ y) (payS N x y) := by
  obtain ⟨h2, hn, h8, hW, h6, hk, h0, z2, z8, z6⟩ := cur_k hC
  unfold payS
  rw [z2]
  refine ok_rd hn (by decide) (fun r r1 _ => ?_)
  by_cases c1 : nI 1 ≤ y ∧ y ≤ nI 9999
  · rw [if_pos c1]
    by_cases c2 : N (9 + 20 * r + 2) = 0
    · rw [if_pos c2]
      obtain ⟨⟨pu, pd, i1, i2⟩, i4, i5, i6⟩ := hI
      obtain ⟨e1, e2, e3⟩ := i1 r r1
      obtain ⟨t, t1, rfl⟩ := nI_of2 (x := y) (M := nI 9999) (n := 9999) rfl (Int32.not_lt.mpr (Int32.le_trans (by decide) c1.1)) c1.2
      rw [nZ_of2 (by omega)]
      by_cases c3 : nI 9999 < N (9 + 20 * r + 1) + nI t
      · rw [if_pos c3]; exact ok_e (by decide)
      · rw [if_neg c3]
        rw [e1, nI_add] at c3 ⊢
        have hle : pu r + t ≤ 9999 := by
          have := Int32.not_lt.mp c3
          exact (nI_leI (by omega) (by omega)).mp this
        have hu : ∀ f, f ≠ 9 + 20 * r + 1 → upd N (9 + 20 * r + 1) (nI (pu r + t)) f = N f := fun f hf => upd_ne hf
        refine ok_a (nI_pos (by omega)) (step_same h2 hn h8 hW (hu _ (by omega)) (hu _ (by omega)) (hu _ (by omega)) (fun f f1 _ => hu f (by omega)) (fun q q1 => ⟨hu _ (by omega), hu _ (by omega)⟩) ⟨⟨fun q => if q = r then pu r + t else pu q, pd, fun q hq => ?_, ?_⟩, ?_, fun v hv => ?_, fun q c hq hc hh => ?_⟩ (by omega))
        · by_cases z : q = r
          · subst z
            dsimp only
            rw [if_pos rfl, upd_eq, hu _ (by omega)]
            exact ⟨rfl, hle, e3⟩
          · dsimp only
            rw [if_neg z, hu _ (by omega), hu _ (by omega)]
            exact i1 q hq
        · rw [cn_at r1]; omega
        · obtain ⟨q, q1, q2⟩ := i4
          exact ⟨q, q1, by rw [hu _ (by omega)]; exact q2⟩
        · rw [hu _ (by omega)]; exact i5 v hv
        · rw [hu _ (by omega)] at hh
          rw [hu _ (by omega)]
          exact i6 q c hq hc hh
    · rw [if_neg c2]; exact ok_e (by decide)
  · rw [if_neg c1]; exact ok_e (by decide)
/-- what no purse, rent, value or write is in may change -/
theorem inv_cg (hI : INV N n W put) (hn : n ≤ 40) (hW : W ≤ 64) (h4 : N' 4 = N 4) (hT : ∀ f, 809 ≤ f → f < 1001 → N' f = N f) (hr : ∀ r f, r < n → f = 1 ∨ f = 7 ∨ f = 4 ∨ (8 ≤ f ∧ f < 20) → N' (9 + 20 * r + f) = N (9 + 20 * r + f)) : INV N' n W (put + 0) := by
  obtain ⟨⟨pu, pd, i1, i2⟩, ⟨q, q1, q2⟩, i5, i6⟩ := hI
  refine ⟨⟨pu, pd, fun r r1 => ?_, i2⟩, ⟨q, q1, by rw [h4]; exact q2⟩, fun v hv => ?_, fun r c r1 hc hh => ?_⟩
  · rw [hr r 1 r1 (by omega), hr r 7 r1 (by omega)]; exact i1 r r1
  · rw [hT _ (by omega) (by omega)]; exact i5 v hv
  · rw [hr r 4 r1 (by omega)] at hh
    rw [hr r (8 + c) r1 (by omega)]
    exact i6 r c r1 hc hh
theorem sx_rent (hC : CurR G 0 N n k W P mo ow vx) (hI : INV N n W put) (y : Int32) : OKS N put 0 (rentS N y) := by
  obtain ⟨h2, hn, h8, hW, h6, hk, h0, z2, z8, z6⟩ := cur_k hC
  unfold rentS
  by_cases c1 : nI 0 ≤ y ∧ y ≤ nI 99
  · rw [if_pos c1]
    by_cases c2 : y = N 4
    · rw [if_pos c2]; exact ok_e (by decide)
    · rw [if_neg c2]
      obtain ⟨⟨pu, pd, i1, i2⟩, ⟨q, q1, q2⟩, i5, i6⟩ := hI
      obtain ⟨t, t1, rfl⟩ := nI_of2 (x := y) (M := nI 99) (n := 99) rfl (Int32.not_lt.mpr c1.1) c1.2
      have hu : ∀ f, f ≠ 4 → upd N 4 (nI t) f = N f := fun f hf => upd_ne hf
      refine ok_a (by rw [q2]; exact nI_pos (by omega)) (step_same h2 hn h8 hW (hu _ (by omega)) (hu _ (by omega)) (hu _ (by omega)) (fun f f1 _ => hu f (by omega)) (fun q q1 => ⟨hu _ (by omega), hu _ (by omega)⟩) ⟨⟨pu, pd, fun r hr => ?_, i2⟩, ⟨t, t1, upd_eq⟩, fun v hv => ?_, fun r c hr hc hh => ?_⟩ (by omega))
      · rw [hu _ (by omega), hu _ (by omega)]; exact i1 r hr
      · rw [hu _ (by omega)]; exact i5 v hv
      · rw [hu _ (by omega)] at hh
        rw [hu _ (by omega)]
        exact i6 r c hr hc hh
  · rw [if_neg c1]; exact ok_e (by decide)
theorem sx_skew (hC : CurR G 0 N n k W P mo ow vx) (hI : INV N n W put) (y : Int32) : OKS N put 0 (skewS N y) := by
  obtain ⟨h2, hn, h8, hW, h6, hk, h0, z2, z8, z6⟩ := cur_k hC
  unfold skewS
  rw [z6]
  by_cases c2 : y = N 7
  · rw [if_pos c2]; exact ok_e (by decide)
  · rw [if_neg c2]
    have hu : ∀ f, f ≠ 7 → upd N 7 y f = N f := fun f hf => upd_ne hf
    have hb : cn (fun q => cn (swM (upd N 7 y) q) q) k ≤ 40 * 40 := by
      have h1 : cn (fun q => cn (swM (upd N 7 y) q) q) k ≤ cn (fun _ => 40) k := rm_mono (fun q hq => Nat.le_trans (cn_le (fun i _ => by unfold swM; split <;> omega)) (by omega))
      rw [rm_const] at h1
      exact Nat.le_trans h1 (Nat.mul_le_mul_right _ hk)
    exact ok_a (nI_pos (by omega)) (step_same h2 hn h8 hW (hu _ (by omega)) (hu _ (by omega)) (hu _ (by omega)) (fun f f1 _ => hu f (by omega)) (fun q q1 => ⟨hu _ (by omega), hu _ (by omega)⟩) (inv_cg hI hn (by omega) (hu _ (by omega)) (fun f f1 _ => hu f (by omega)) (fun r f r1 _ => hu _ (by omega))) (by omega))
theorem sx_widow (hC : CurR G 0 N n k W P mo ow vx) (hI : INV N n W put) (x y : Int32) : OKS N put 0 (widS N x y) := by
  obtain ⟨h2, hn, h8, hW, h6, hk, h0, z2, z8, z6⟩ := cur_k hC
  unfold widS
  rw [z2, z8]
  refine ok_rd hn (by decide) (fun r r1 _ => ?_)
  by_cases c1 : nI 1 ≤ y ∧ y ≤ nI 20
  · rw [if_pos c1]
    by_cases c2 : N (9 + 20 * r + 2) = 0 ∧ N (9 + 20 * r + 6) = 0
    · rw [if_pos c2]
      obtain ⟨e, e1, e2⟩ := due_nn (n := n) (W := W) hn (by omega) hI.2.1 r
      have hu : ∀ f, f ≠ 9 + 20 * r + 5 → f ≠ 9 + 20 * r + 6 → upd (upd N (9 + 20 * r + 6) (nI 1)) (9 + 20 * r + 5) y f = N f := fun f h5 h6 => by rw [upd_ne h5, upd_ne h6]
      exact ok_a (by rw [e2]; exact nI_pos (by omega)) (step_same h2 hn h8 hW (hu _ (by omega) (by omega)) (hu _ (by omega) (by omega)) (hu _ (by omega) (by omega)) (fun f f1 _ => hu f (by omega) (by omega)) (fun q q1 => ⟨hu _ (by omega) (by omega), hu _ (by omega) (by omega)⟩) (inv_cg hI hn (by omega) (hu _ (by omega) (by omega)) (fun f f1 _ => hu f (by omega) (by omega)) (fun q f q1 _ => hu _ (by omega) (by omega))) (by omega))
    · rw [if_neg c2]; exact ok_e (by decide)
  · rw [if_neg c1]; exact ok_e (by decide)
theorem sx_read (hC : CurR G 0 N n k W P mo ow vx) (hI : INV N n W put) (x y : Int32) : OKS N put 0 (reaS N x y) := by
  obtain ⟨h2, hn, h8, hW, h6, hk, h0, z2, z8, z6⟩ := cur_k hC
  unfold reaS
  rw [z2, z8]
  refine ok_rd hn (by decide) (fun r r1 _ => ok_rd (by omega) (by decide) (fun c c1 _ => ?_))
  by_cases c2 : N (9 + 20 * r + 2) = 0
  · rw [if_pos c2]
    by_cases c3 : hw (N (9 + 20 * r + 4)) c
    · rw [if_pos c3]
      obtain ⟨e, e1, e2⟩ := hI.2.2.2 r c r1 c1 c3
      exact ok_a (by rw [e2]; exact nI_pos (by omega)) (step_same h2 hn h8 hW rfl rfl rfl (fun _ _ _ => rfl) (fun _ _ => ⟨rfl, rfl⟩) hI (by omega))
    · rw [if_neg c3]
      have hu : ∀ f, f ≠ 9 + 20 * r + 3 → reaN N r c f = N f := fun f hf => by unfold reaN; rw [upd_ne hf]
      have hlt : vA (reaN N r c) W (nI c) (reaN N r c (9 + 20 * r + 0)) < W := vA_lt (by omega)
      obtain ⟨e, e1, e2⟩ := hI.2.2.1 _ hlt
      refine ok_a ?_ (step_same h2 hn h8 hW (hu _ (by omega)) (hu _ (by omega)) (hu _ (by omega)) (fun f f1 _ => hu f (by omega)) (fun q q1 => ⟨hu _ (by omega), hu _ (by omega)⟩) (inv_cg hI hn (by omega) (hu _ (by omega)) (fun f f1 _ => hu f (by omega)) (fun q f q1 _ => hu _ (by omega))) (by omega))
      rw [hu (809 + 3 * vA (reaN N r c) W (nI c) (reaN N r c (9 + 20 * r + 0)) + 2) (by omega), e2]
      exact nI_pos (by omega)
  · rw [if_neg c2]; exact ok_e (by decide)
theorem bit_nn (x : Int32) : ∃ a, a ≤ 12 ∧ sm (fun k => x >>> (nI k &&& 31) &&& nI 1) 12 = nI a := by
  have h : ∀ k, ∃ b, b ≤ 1 ∧ x >>> (nI k &&& 31) &&& nI 1 = nI b := fun k => ⟨_, by omega, pk_and _ 1 (by decide)⟩
  have e : sm (fun k => x >>> (nI k &&& 31) &&& nI 1) 12 = nI (cn (fun k => (h k).choose) 12) := by
    rw [← rm_nI]
    exact sm_congr (fun k _ => (h k).choose_spec.2)
  exact ⟨_, cn_le (fun k _ => (h k).choose_spec.1), e⟩
theorem sx_write (hC : CurR G 0 N n k W P mo ow vx) (hI : INV N n W put) (x y z : Int32) : OKS N put 0 (wriS N x y z) := by
  obtain ⟨h2, hn, h8, hW, h6, hk, h0, z2, z8, z6⟩ := cur_k hC
  unfold wriS
  rw [z2]
  refine ok_rd hn (by decide) (fun r r1 _ => ok_rd (by omega) (by decide) (fun c c1 _ => ?_))
  by_cases c4 : nI 0 ≤ z ∧ z ≤ nI 9999
  · rw [if_pos c4]
    by_cases c2 : N (9 + 20 * r + 2) = 0
    · rw [if_pos c2]
      obtain ⟨a, a1, a2⟩ := bit_nn (N (9 + 20 * r + 4) ||| bt c)
      obtain ⟨t, t1, rfl⟩ := nI_of2 (x := z) (M := nI 9999) (n := 9999) rfl (Int32.not_lt.mpr c4.1) c4.2
      obtain ⟨N', eN⟩ : ∃ N', N' = upd (upd N (9 + 20 * r + 4) (N (9 + 20 * r + 4) ||| bt c)) (9 + 20 * r + (8 + c)) (nI t) := ⟨_, rfl⟩
      rw [← eN]
      have hu : ∀ f, f ≠ 9 + 20 * r + 4 → f ≠ 9 + 20 * r + (8 + c) → N' f = N f := fun f h5 h6 => by rw [eN, upd_ne h6, upd_ne h5]
      have hu4 : N' (9 + 20 * r + 4) = N (9 + 20 * r + 4) ||| bt c := by rw [eN, upd_ne (by omega), upd_eq]
      have hu8 : N' (9 + 20 * r + (8 + c)) = nI t := by rw [eN, upd_eq]
      obtain ⟨⟨pu, pd, i1, i2⟩, ⟨q, q1, q2⟩, i5, i6⟩ := hI
      refine ok_a (by rw [a2]; exact nI_pos (by omega)) (step_same h2 hn h8 hW (hu _ (by omega) (by omega)) (hu _ (by omega) (by omega)) (hu _ (by omega) (by omega)) (fun f f1 _ => hu f (by omega) (by omega)) (fun q q1 => ⟨hu _ (by omega) (by omega), hu _ (by omega) (by omega)⟩) ⟨⟨pu, pd, fun s hs => ?_, i2⟩, ⟨q, q1, ?_⟩, fun v hv => ?_, fun s e hs he hh => ?_⟩ (by omega))
      · rw [hu _ (by omega) (by omega), hu _ (by omega) (by omega)]; exact i1 s hs
      · rw [hu _ (by omega) (by omega)]; exact q2
      · rw [hu _ (by omega) (by omega)]; exact i5 v hv
      · by_cases w : s = r
        · subst w
          by_cases w2 : e = c
          · subst w2
            exact ⟨t, t1, hu8⟩
          · rw [hu4] at hh
            rw [hu _ (by omega) (by omega)]
            rcases (hb_or _ _ e (by omega)).mp hh with g | g
            · exact i6 s e hs he g
            · exact absurd ((hb_bt c e (by omega) (by omega)).mp g).symm w2
        · rw [hu _ (by omega) (by omega)] at hh
          rw [hu _ (by omega) (by omega)]
          exact i6 s e hs he hh
    · rw [if_neg c2]; exact ok_e (by decide)
  · rw [if_neg c4]; exact ok_e (by decide)
theorem sx_open (hC : CurR G 0 N n k W P mo ow vx) (hI : INV N n W put) (y : Int32) : OKS N put (nZ y) (opnS N y) := by
  obtain ⟨h2, hn, h8, hW, h6, hk, h0, z2, z8, z6⟩ := cur_k hC
  unfold opnS
  rw [z2]
  by_cases c1 : nI 0 ≤ y ∧ y ≤ nI 9999
  · rw [if_pos c1]
    by_cases c2 : n = 40 ∨ 8 ≤ opn N n
    · rw [if_pos c2]; exact ok_e (by decide)
    · rw [if_neg c2]
      obtain ⟨t, t1, rfl⟩ := nI_of2 (x := y) (M := nI 9999) (n := 9999) rfl (Int32.not_lt.mpr c1.1) c1.2
      rw [nZ_of2 (by omega)]
      obtain ⟨N', eN⟩ : ∃ N', N' = opnN N n (nI t) := ⟨_, rfl⟩
      rw [← eN]
      have hu : ∀ f, f ≠ 2 → f < 9 + 20 * n ∨ 9 + 20 * n + 20 ≤ f → N' f = N f := fun f f2 hf => by rw [eN]; unfold opnN; rw [if_neg f2, if_neg (by omega), if_neg (by omega), if_neg (by omega)]
      have hu2 : N' 2 = nI (n + 1) := by rw [eN]; unfold opnN; rw [if_pos rfl]
      have hu1 : N' (9 + 20 * n + 1) = nI t := by rw [eN]; unfold opnN; rw [if_neg (by omega), if_neg (by omega), if_pos rfl]
      have huz : ∀ f, 2 ≤ f → f < 20 → N' (9 + 20 * n + f) = 0 := fun f f1 f2 => by rw [eN]; unfold opnN; rw [if_neg (by omega), if_neg (by omega), if_neg (by omega), if_pos (by omega)]
      obtain ⟨⟨pu, pd, i1, i2⟩, ⟨q, q1, q2⟩, i5, i6⟩ := hI
      refine ok_a (nI_pos (by omega)) ⟨t1, ?_, ?_, Or.inl (hu 0 (by omega) (by omega)), fun r hr ho => ?_⟩
      · rw [hu2, hu 8 (by omega) (by omega), z8, nZ_of2 (by omega)]
        refine ⟨⟨fun r => if r = n then t else pu r, fun r => if r = n then 0 else pd r, fun r hr => ?_, ?_⟩, ⟨q, q1, by rw [hu 4 (by omega) (by omega)]; exact q2⟩, fun v hv => by rw [hu _ (by omega) (by omega)]; exact i5 v hv, fun r c hr hc hh => ?_⟩
        · by_cases w : r = n
          · subst w
            dsimp only
            rw [if_pos rfl, if_pos rfl, hu1, huz 7 (by omega) (by omega)]
            exact ⟨rfl, t1, rfl⟩
          · dsimp only
            rw [if_neg w, if_neg w, hu _ (by omega) (by omega), hu _ (by omega) (by omega)]
            exact i1 r (by omega)
        · rw [cn, cn]
          try dsimp only
          rw [if_pos rfl, if_pos rfl, cn_congr (g := pu) (fun r hr => if_neg (by omega)), cn_congr (g := pd) (fun r hr => if_neg (by omega))]
          omega
        · by_cases w : r = n
          · subst w
            rw [huz 4 (by omega) (by omega)] at hh
            exact absurd hh (hw_0 (by omega))
          · rw [hu _ (by omega) (by omega)] at hh
            rw [hu _ (by omega) (by omega)]
            exact i6 r c (by omega) hc hh
      · rw [hu2, z2, nZ_of2 (by omega)]; omega
      · rw [z2] at hr
        rw [hu _ (by omega) (by omega)] at ho
        refine ⟨ho, fun c hc => ?_⟩
        rw [hu 8 (by omega) (by omega), z8]
        exact VSN_cg (by omega) hW.1 (fun f f1 f2 => hu f (by omega) (by omega)) (hu _ (by omega) (by omega))
  · rw [if_neg c1]; exact ok_e (by decide)
end STEPS
