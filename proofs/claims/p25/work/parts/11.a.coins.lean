/-! What stays true of the numbers: coins, rent, values; what a reader sees. -/
/-- the value that a reader sees of a cell -/
def VSN (N : Nat → Int32) (W r c : Nat) : Int32 := N (809 + 3 * vA N W (nI c) (N (9 + 20 * r + 0)) + 2)
def INV (N : Nat → Int32) (n W put : Nat) : Prop :=
  (∃ pu pd : Nat → Nat, (∀ r, r < n → N (9 + 20 * r + 1) = nI (pu r) ∧ pu r ≤ 9999 ∧ N (9 + 20 * r + 7) = nI (pd r)) ∧ cn pu n + cn pd n = put) ∧
  (∃ q, q ≤ 99 ∧ N 4 = nI q) ∧ (∀ v, v < W → ∃ x, x ≤ 9999 ∧ N (809 + 3 * v + 2) = nI x) ∧
  ∀ r c, r < n → c < 12 → hw (N (9 + 20 * r + 4)) c → ∃ x, x ≤ 9999 ∧ N (9 + 20 * r + (8 + c)) = nI x
section INVS
variable {N N' : Nat → Int32} {n k W put : Nat} {P : Nat → Nat} {mo : Nat → Nat → Nat} {va : Nat → Nat → Int32} {vx : Nat → Nat → Nat} {ow : Nat → Nat}
theorem VSN_cg (hW : W ≤ 64) (h1 : 1 ≤ W) {r c : Nat} (hT : ∀ f, 809 ≤ f → f < 1001 → N' f = N f) (h0 : N' (9 + 20 * r + 0) = N (9 + 20 * r + 0)) : VSN N' W r c = VSN N W r c := by
  have e : vA N' W (nI c) (N' (9 + 20 * r + 0)) = vA N W (nI c) (N (9 + 20 * r + 0)) := by
    unfold vA
    rw [h0, vaS_cg hT W hW]
  have hlt : vA N W (nI c) (N (9 + 20 * r + 0)) < W := vA_lt (by omega)
  unfold VSN
  rw [e, hT _ (by omega) (by omega)]
theorem vsn_at (hA : ABS N n k P mo ow) {N1 : Nat → Int32} {V1 : Nat} {S : Nat → Nat → Prop} (hT : TbS N1 V1 S P mo va vx) (hS : ∀ c p, KP N n P mo ow c p → S c p) {r c : Nat} (hr : r < n) (ho : N (9 + 20 * r + 2) = 0) (hc : c < 12) (h0 : N1 (9 + 20 * r + 0) = N (9 + 20 * r + 0)) : VSN N1 V1 r c = va c (fq (mo c) (ow r) (P c)) := by
  unfold VSN
  rw [h0, ev_see hA hT hS hr ho hc]
  exact (hT.1 c _ hc (ABS_f hA hr ho hc) (hS c _ (Or.inr ⟨r, hr, ho, rfl⟩))).2.2.2
/-- what is unseen goes: the rest stays true, and what a reader sees stays the same -/
theorem rm_inv (hA : ABS N n k P mo ow) (hT : TbS N W (fun _ _ => True) P mo va vx) (hW : W ≤ 64) (hI : INV N n W put) : INV (rmN N n W) n (rmD N n W W).2.1 put ∧ (∀ f, f ≠ 8 → f ≠ 3 → f < 809 → rmN N n W f = N f) ∧ ∀ r c, r < n → N (9 + 20 * r + 2) = 0 → c < 12 → VSN (rmN N n W) (rmD N n W W).2.1 r c = VSN N W r c := by
  obtain ⟨vx1, t1, t2, t3, t4⟩ := rm_all hA hT hW
  have hn4 := hA.2.2.2.1
  have hlo : ∀ f, f ≠ 8 → f ≠ 3 → f < 809 → rmN N n W f = N f := fun f a b c => t3 f a b (Or.inl c)
  obtain ⟨⟨pu, pd, i1, i2⟩, ⟨q, i3, i4⟩, i5, i6⟩ := hI
  refine ⟨⟨⟨pu, pd, fun r hr => ?_, i2⟩, ⟨q, i3, ?_⟩, fun v hv => ?_, fun r c hr hc hh => ?_⟩, hlo, fun r c hr ho hc => ?_⟩
  · rw [hlo _ (by omega) (by omega) (by omega), hlo _ (by omega) (by omega) (by omega)]
    exact i1 r hr
  · rw [hlo _ (by omega) (by omega) (by omega)]; exact i4
  · obtain ⟨c, p, c1, c2, c3, rfl⟩ := t1.2 v hv
    obtain ⟨a1, a2, a3, a4⟩ := t1.1 c p c1 c2 c3
    obtain ⟨b1, b2, b3, b4⟩ := hT.1 c p c1 c2 trivial
    rw [a4, ← b4]
    exact i5 _ b1
  · rw [hlo _ (by omega) (by omega) (by omega)] at hh
    rw [hlo _ (by omega) (by omega) (by omega)]
    exact i6 r c hr hc hh
  · rw [vsn_at hA t1 (fun _ _ h => h) hr ho hc (hlo _ (by omega) (by omega) (by omega)), vsn_at hA hT (fun _ _ _ => trivial) hr ho hc rfl]
/-- fewer are open -/
theorem ABS_less (hA : ABS N n k P mo ow) (h0 : N' 0 = N 0) (hm : ∀ r, r < n → N' (9 + 20 * r + 0) = N (9 + 20 * r + 0)) (hs : ∀ r, r < n → N' (9 + 20 * r + 2) = 0 → N (9 + 20 * r + 2) = 0) : ABS N' n k P mo ow := by
  obtain ⟨a1, a2, a3, a4, a5, a6⟩ := hA
  exact ⟨a1, by rw [h0]; exact a2, a3, a4, fun r hr => by rw [hm r hr]; exact a5 r hr, fun r hr ho => a6 r hr (hs r hr ho)⟩
theorem TbS_same (hT : TbS N W (fun _ _ => True) P mo va vx) (hW : W ≤ 64) (h : ∀ f, 809 ≤ f → f < 1001 → N' f = N f) : TbS N' W (fun _ _ => True) P mo va vx := TbS_cg hT hW h (fun _ _ _ _ => rfl)
/-- a due is small, and no less than 0 -/
theorem due_nn (hn : n ≤ 40) (hW : W ≤ 64) (hq : ∃ q, q ≤ 99 ∧ N 4 = nI q) (r : Nat) : ∃ d, d ≤ 64 * 138 ∧ dueM N W n r = nI d := by
  obtain ⟨q, q1, q2⟩ := hq
  have hc : ∀ v, cn (sbM N W v (nI 0)) n ≤ 40 := fun v => Nat.le_trans (cn_le (fun i _ => by unfold sbM; split <;> omega)) hn
  have hv : ∀ v, ∃ d, d ≤ 138 ∧ duM N W n r v = nI d := fun v => by
    unfold duM
    by_cases z : olM N W v ∧ seM N W r v
    · rw [if_pos z]
      unfold reM
      by_cases z2 : nI (cn (sbM N W v (nI 0)) n) = 0
      · rw [if_pos z2]; exact ⟨0, by omega, rfl⟩
      · rw [if_neg z2]
        have h0 : 0 < cn (sbM N W v (nI 0)) n := by
          rcases Nat.eq_zero_or_pos (cn (sbM N W v (nI 0)) n) with e | e
          · rw [e] at z2; exact absurd rfl z2
          · exact e
        have hcv := hc v
        rw [q2, nI_add, pk_sub (by omega), pk_div (by omega) h0 (by omega)]
        exact ⟨_, Nat.le_trans (Nat.div_le_self _ _) (by omega), rfl⟩
    · rw [if_neg z]; exact ⟨0, by omega, rfl⟩
  unfold dueM
  by_cases z : N (9 + 20 * r + 2) = 0 ∧ ¬ 0 < N (9 + 20 * r + 5)
  · rw [if_pos z]
    have e : sm (duM N W n r) W = nI (cn (fun v => (hv v).choose) W) := by
      rw [← rm_nI]
      exact sm_congr (fun v _ => (hv v).choose_spec.2)
    refine ⟨_, ?_, e⟩
    have h1 : cn (fun v => (hv v).choose) W ≤ cn (fun _ => 138) W := rm_mono (fun v _ => (hv v).choose_spec.1)
    rw [rm_const] at h1
    exact Nat.le_trans h1 (Nat.mul_le_mul_right _ hW)
  · rw [if_neg z]; exact ⟨0, by omega, rfl⟩
theorem paid_row {r f : Nat} (hr : r < n) (hf : f < 20) : paidN N W n (9 + 20 * r + f) = pyRow (fun f => N (9 + 20 * r + f)) (dueM N W n r) f := (pyA_row N (dueM N W n) hf n).2 hr
theorem paid_lo {f : Nat} (hn : n ≤ 40) (h5 : f ≠ 5) (hf : f < 9 ∨ 809 ≤ f) : paidN N W n f = N f := pyA_lo N (dueM N W n) n f hn h5 hf
theorem pyRow_o (R : Nat → Int32) (d : Int32) {f : Nat} (h1 : f ≠ 1) (h2 : f ≠ 2) (h5 : f ≠ 5) (h7 : f ≠ 7) : pyRow R d f = R f := by
  unfold pyRow
  simp only [if_neg h1, if_neg h2, if_neg h5, if_neg h7, ite_self]
/-- a tick: coins go from purses to what was paid -/
theorem paid_inv (hn : n ≤ 40) (hW : W ≤ 64) (hI : INV N n W put) : INV (paidN N W n) n W put ∧ (∀ f, 809 ≤ f → f < 1001 → paidN N W n f = N f) ∧ paidN N W n 0 = N 0 ∧ ∀ r, r < n → paidN N W n (9 + 20 * r + 0) = N (9 + 20 * r + 0) ∧ (paidN N W n (9 + 20 * r + 2) = 0 → N (9 + 20 * r + 2) = 0) := by
  have ht : ∀ f, 809 ≤ f → f < 1001 → paidN N W n f = N f := fun f h1 h2 => paid_lo hn (by omega) (Or.inr h1)
  have hd := due_nn (n := n) (W := W) hn hW hI.2.1
  obtain ⟨⟨pu, pd, i1, i2⟩, ⟨q, i3, i4⟩, i5, i6⟩ := hI
  have key : ∀ r, r < n → ∃ a b, paidN N W n (9 + 20 * r + 1) = nI a ∧ a ≤ 9999 ∧ paidN N W n (9 + 20 * r + 7) = nI b ∧ a + b = pu r + pd r := fun r hr => by
    obtain ⟨e1, e2, e3⟩ := i1 r hr
    obtain ⟨d, d1, d2⟩ := hd r
    rw [paid_row hr (by omega), paid_row hr (by omega), d2]
    unfold pyRow
    dsimp only
    by_cases z : N (9 + 20 * r + 2) = 0 ∧ ¬ 0 < N (9 + 20 * r + 5)
    · rw [if_pos z, if_pos z]
      by_cases z2 : nI d ≤ N (9 + 20 * r + 1)
      · rw [if_pos z2, if_pos z2, if_pos rfl, if_neg (by omega), if_pos rfl, e1, e3]
        rw [e1] at z2
        have hle := (nI_leI (by omega) (by omega)).mp z2
        exact ⟨pu r - d, pd r + d, pk_sub hle, by omega, nI_add _ _, by omega⟩
      · rw [if_neg z2, if_neg z2, if_neg (by omega), if_neg (by omega)]
        exact ⟨pu r, pd r, e1, e2, e3, rfl⟩
    · rw [if_neg z, if_neg z]
      by_cases z2 : N (9 + 20 * r + 2) = 0
      · rw [if_pos z2, if_pos z2, if_neg (by omega), if_neg (by omega)]
        exact ⟨pu r, pd r, e1, e2, e3, rfl⟩
      · rw [if_neg z2, if_neg z2]
        exact ⟨pu r, pd r, e1, e2, e3, rfl⟩
  refine ⟨⟨⟨fun r => if h : r < n then (key r h).choose else 0, fun r => if h : r < n then (key r h).choose_spec.choose else 0, fun r hr => ?_, ?_⟩, ⟨q, i3, ?_⟩, fun v hv => ?_, fun r c hr hc hh => ?_⟩, ht, paid_lo hn (by omega) (Or.inl (by omega)), fun r hr => ⟨?_, fun ho => ?_⟩⟩
  · dsimp only
    rw [dif_pos hr, dif_pos hr]
    have := (key r hr).choose_spec.choose_spec
    exact ⟨this.1, this.2.1, this.2.2.1⟩
  · rw [← rm_add, ← i2, ← rm_add]
    refine cn_congr (fun r hr => ?_)
    try dsimp only
    rw [dif_pos hr, dif_pos hr]
    exact (key r hr).choose_spec.choose_spec.2.2.2
  · rw [paid_lo hn (by omega) (Or.inl (by omega))]; exact i4
  · rw [ht _ (by omega) (by omega)]; exact i5 v hv
  · rw [paid_row hr (by omega), pyRow_o _ _ (by omega) (by omega) (by omega) (by omega)] at hh
    rw [paid_row hr (by omega), pyRow_o _ _ (by omega) (by omega) (by omega) (by omega)]
    exact i6 r c hr hc hh
  · rw [paid_row hr (by omega), pyRow_o _ _ (by omega) (by omega) (by omega) (by omega)]
  · rw [paid_row hr (by omega), (py_state _ _).1] at ho
    try dsimp only at ho
    by_cases z : (N (9 + 20 * r + 2) = 0 ∧ ¬ 0 < N (9 + 20 * r + 5)) ∧ ¬ dueM N W n r ≤ N (9 + 20 * r + 1)
    · rw [if_pos z] at ho; exact absurd ho (by decide)
    · rw [if_neg z] at ho; exact ho
/-- a whole tick -/
theorem tkN_inv (hA : ABS N n k P mo ow) (hT : TbS N W (fun _ _ => True) P mo va vx) (h1 : 1 ≤ W) (hW : W ≤ 64) (hI : INV N n W put) : INV (tkN N W n) n (rmD (paidN N W n) n W W).2.1 put ∧ tkN N W n 0 = N 0 ∧ ∀ r, r < n → tkN N W n (9 + 20 * r + 2) = 0 → N (9 + 20 * r + 2) = 0 ∧ ∀ c, c < 12 → VSN (tkN N W n) (rmD (paidN N W n) n W W).2.1 r c = VSN N W r c := by
  have hn := hA.2.2.2.1
  obtain ⟨p1, p2, p3, p4⟩ := paid_inv hn hW hI
  have hA1 : ABS (paidN N W n) n k P mo ow := ABS_less hA p3 (fun r hr => (p4 r hr).1) (fun r hr => (p4 r hr).2)
  have hT1 := TbS_same hT hW p2
  obtain ⟨q1, q2, q3⟩ := rm_inv hA1 hT1 hW p1
  obtain ⟨⟨pu, pd, i1, i2⟩, ⟨q, i3, i4⟩, i5, i6⟩ := q1
  have hu : ∀ f, f ≠ 1 → tkN N W n f = rmN (paidN N W n) n W f := fun f hf => by unfold tkN; rw [upd_ne hf]
  have hV : ∀ r c, VSN (tkN N W n) (rmD (paidN N W n) n W W).2.1 r c = VSN (rmN (paidN N W n) n W) (rmD (paidN N W n) n W W).2.1 r c := fun r c => by
    obtain ⟨t1, t2, t3, t4⟩ := rm_all hA1 hT1 hW
    have hle : (rmD (paidN N W n) n W W).2.1 ≤ W := by omega
    have e : vA (tkN N W n) (rmD (paidN N W n) n W W).2.1 (nI c) (tkN N W n (9 + 20 * r + 0)) = vA (rmN (paidN N W n) n W) (rmD (paidN N W n) n W W).2.1 (nI c) (rmN (paidN N W n) n W (9 + 20 * r + 0)) := by
      unfold vA
      rw [hu _ (by omega), vaS_cg (fun f f1 f2 => hu f (by omega)) _ (by omega)]
    unfold VSN
    rw [e, hu _ (by omega)]
  refine ⟨⟨⟨pu, pd, fun r hr => ?_, i2⟩, ⟨q, i3, ?_⟩, fun v hv => ?_, fun r c hr hc hh => ?_⟩, ?_, fun r hr ho => ?_⟩
  · rw [hu _ (by omega), hu _ (by omega)]; exact i1 r hr
  · rw [hu _ (by omega)]; exact i4
  · rw [hu _ (by omega)]; exact i5 v hv
  · rw [hu _ (by omega)] at hh
    rw [hu _ (by omega)]
    exact i6 r c hr hc hh
  · rw [hu _ (by omega), q2 0 (by omega) (by omega) (by omega), p3]
  · rw [hu _ (by omega), q2 _ (by omega) (by omega) (by omega)] at ho
    refine ⟨(p4 r hr).2 ho, fun c hc => ?_⟩
    rw [hV, q3 r c hr ho hc, VSN_cg hW h1 p2 (p4 r hr).1]
end INVS
