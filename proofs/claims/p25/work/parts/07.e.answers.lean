/-! The questions: the same answers. -/
theorem ite_cg {α : Type} {p q : Prop} {hp : Decidable p} {hq : Decidable q} {a b c d : α} (h : p ↔ q) (h1 : a = c) (h2 : b = d) : (@ite α p hp a b) = @ite α q hq c d := by
  subst h1; subst h2
  by_cases z : p
  · rw [if_pos z, if_pos (h.mp z)]
  · rw [if_neg z, if_neg (fun w => z (h.mpr w))]
section ANS
variable {G : Nat → Nat → Int32} {N : Nat → Int32} {n k W : Nat} {P : Nat → Nat} {mo : Nat → Nat → Nat} {ow : Nat → Nat} {vx : Nat → Nat → Nat}
theorem an_writers (h : Cur0 G 0 N n k W P mo ow vx) (c : Nat) : cn (fun i => if G (rN 0 i) 1 = 0 ∧ hw (G (rN 0 i) 5) c then 1 else 0) n = cn (fun r => if N (9 + 20 * r + 2) = 0 ∧ hw (N (9 + 20 * r + 4)) c then 1 else 0) n := cn_congr (fun r hr => by
  obtain ⟨r1, r2, r3, r4, r5, -⟩ := cu_rd h hr
  rw [r1, r5])
theorem an_states (h : Cur0 G 0 N n k W P mo ow vx) (w : Int32) : cn (fun i => if G (rN 0 i) 1 = w then 1 else 0) n = cn (fun r => if N (9 + 20 * r + 2) = w then 1 else 0) n := cn_congr (fun r hr => by rw [(cu_rd h hr).1])
theorem an_widows (h : Cur0 G 0 N n k W P mo ow vx) : cn (fun i => if G (rN 0 i) 1 = 0 ∧ 0 < G (rN 0 i) 6 then 1 else 0) n = cn (fun r => if N (9 + 20 * r + 2) = 0 ∧ 0 < N (9 + 20 * r + 5) then 1 else 0) n := cn_congr (fun r hr => by
  rw [(cu_rd h hr).1, (cu_rd h hr).2.2.2.2.2.1])
theorem an_cell (h : Cur0 G 0 N n k W P mo ow vx) {c : Nat} (hc : c < 12) (y : Int32) : clC G n P c y = clM N W n c y := by
  have h1 := cu_1 h hc
  unfold clC clM
  rw [cu_new h hc, (cu_row h hc h1).2.1, (cu_row h hc h1).2.2, cu_seer h hc h1, cu_vers h hc, an_writers h c]
theorem an_reader (h : Cur0 G 0 N n k W P mo ow vx) (hk4 : k ≤ 40) {r : Nat} (hr : r < n) (y : Int32) : rdC G n k P r y = rdM N W n k r y := by
  obtain ⟨r1, r2, r3, r4, r5, r6, r7, -⟩ := cu_rd h hr
  unfold rdC rdM
  rw [cu_due h hr, cu_conf h hr, ← cu_skew h hk4 hr, r1, r2, r3, r4, r5, r6, r7]
  rw [← r2]
  by_cases ho : N (9 + 20 * r + 2) = 0
  · rw [cu_olds h hr ho, cu_sum h hr ho]
  · simp only [if_neg ho]
theorem an_version (h : Cur0 G 0 N n k W P mo ow vx) {c q : Nat} (hc : c < 12) (hq : q < P c) (y : Int32) : vrC G n c (P c) (nI q) y = vrM N W n (vwF N W c q) (nI q) y := by
  have h10 := cu_P10 h hc
  unfold vrC vrM
  rw [cu_vw h hc q hq, (cu_row h hc hq).2.1, (cu_row h hc hq).2.2, cu_seer h hc hq, cu_payer h hc hq, cu_rent h hc hq, nI_clamp (by omega)]
  have e : (nI q = 0) ↔ q = 0 := by rw [← nI_0]; exact nI_eq (by omega) (by omega)
  have e2 : (if q = 0 then 0 else reM N W n (vx c q)) = (if nI q = 0 then nI 0 else reM N W n (vx c q)) := ite_cg e.symm rfl rfl
  rw [e2]
  rfl
theorem an_committed (h : Cur0 G 0 N n k W P mo ow vx) {q : Nat} (hq : q < k) (y : Int32) : cmW (G (mC 0 q)) y = (if nI 0 ≤ y ∧ y ≤ nI 5 then (if y = nI 5 then nI (cn (swM N q) q) else N (1001 + 5 * q + y.toNatClampNeg)) else -2) := by
  obtain ⟨c1, c2, -⟩ := cu_cm h hq
  unfold cmW
  by_cases z : nI 0 ≤ y ∧ y ≤ nI 5
  · rw [if_pos z]
    obtain ⟨t, t1, rfl⟩ := nI_of2 (x := y) (M := nI 5) (n := 5) rfl (Int32.not_lt.mpr z.1) z.2
    rw [nI_clamp (by omega)]
    rcases (show t = 0 ∨ t = 1 ∨ t = 2 ∨ t = 3 ∨ t = 4 ∨ t = 5 by omega) with rfl | rfl | rfl | rfl | rfl | rfl
    · rw [if_pos rfl, if_neg (by decide), c1 0 (by omega)]
    · rw [if_neg (by decide), if_pos rfl, if_neg (by decide), c1 1 (by omega)]
    · rw [if_neg (by decide), if_neg (by decide), if_pos rfl, if_neg (by decide), c1 2 (by omega)]
    · rw [if_neg (by decide), if_neg (by decide), if_neg (by decide), if_pos rfl, if_neg (by decide), c1 3 (by omega)]
    · rw [if_neg (by decide), if_neg (by decide), if_neg (by decide), if_neg (by decide), if_pos rfl, if_neg (by decide), c1 4 (by omega)]
    · rw [if_neg (by decide), if_neg (by decide), if_neg (by decide), if_neg (by decide), if_neg (by decide), if_pos rfl, if_pos rfl, c2]
  · rw [if_neg z]
    have hne : ∀ t, t ≤ 5 → y ≠ nI t := fun t ht e => z ⟨by rw [e]; exact nI_le (by omega) (by omega), by rw [e]; exact nI_le ht (by omega)⟩
    rw [if_neg (hne 0 (by omega)), if_neg (hne 1 (by omega)), if_neg (hne 2 (by omega)), if_neg (hne 3 (by omega)), if_neg (hne 4 (by omega)), if_neg (hne 5 (by omega))]
theorem an_count (h : Cur0 G 0 (G 1) n k W P mo ow vx) (h8 : G 8 1 = G 0 2) (h10 : G 10 1 = G 0 5) (y : Int32) : ctC G n k P y = ctM G W n k y := by
  obtain ⟨s1, s2, s3, s4, s5, s6, s7, s8, s9, s10, s11, s12⟩ := cu_sc h
  have e7 : (if G (sB 0) 9 = 0 then nI 0 else nI 1) = G 1 7 := by
    rw [s9]
    rcases s10 with z | z
    · rw [if_pos z, z]; rfl
    · rw [if_neg (by rw [z]; decide), z]
  have e5 : sm (fun i => G (rN 0 i) 7) n = G 1 5 := by
    rw [s12]
    exact sm_congr (fun r hr => (cu_rd h hr).2.2.2.2.2.2.1)
  unfold ctC ctM
  rw [e7, e5, cu_pairs h, ← cu_oldm h, an_states h, an_states h, an_states h, an_states h, an_widows h, s1, s2, s3, s4, s5, s6, s7, s8, (cu_ab h).2.1, h8, h10]
theorem an_ones {x : Int32} (h : sml x 12) : bcF x = sm (fun k => x >>> (nI k &&& 31) &&& nI 1) 12 := bc_ones h
end ANS
