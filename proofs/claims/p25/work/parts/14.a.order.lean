/-! The objects that are made, in the order of the one world. -/
/-- where a state's object stands among those of its state, in the order of making -/
def pm (o : Nat) : Nat := if o < 41 then o else if o < 121 then (if (o - 41) % 2 = 0 then 41 + 3 * ((o - 41) / 2) else 42 + 3 * ((o - 41) / 2)) else 43 + 3 * (o - 121)
def bs (j : Nat) : Nat := if j < 3 then 1 + 161 * j else 3 + 161 * j
def cr (k : Nat) : Nat := if k < 7 then 1134 + k else if k = 7 then 0 else if k = 8 then 484 else if k = 9 then 485 else if k < 14 then 1120 + k else bs ((k - 14) / 161) + pm ((k - 14) % 161)
def cr1 (j u : Nat) : Nat := 14 + 161 * j + (if u < 41 then u else if (u - 41) % 3 = 0 then 41 + 2 * ((u - 41) / 3) else if (u - 41) % 3 = 1 then 42 + 2 * ((u - 41) / 3) else 121 + (u - 41) / 3)
def crI (n : Nat) : Nat := if 1134 ≤ n then n - 1134 else if n = 0 then 7 else if n = 484 then 8 else if n = 485 then 9 else if 1130 ≤ n then n - 1120 else if n < 484 then cr1 ((n - 1) / 161) ((n - 1) % 161) else cr1 (3 + (n - 486) / 161) ((n - 486) % 161)
theorem pm_lt {o : Nat} (h : o < 161) : pm o < 161 := by
  unfold pm
  split
  · omega
  · split
    · split <;> omega
    · omega
set_option maxRecDepth 100000 in
theorem cr_ok : (List.range 1141).all (fun k => decide (crI (cr k) = k ∧ cr k < 1141)) = true := by decide +kernel
theorem cr_lt {k : Nat} (h : k < 1141) : cr k < 1141 := (of_decide_eq_true (List.all_eq_true.mp cr_ok k (List.mem_range.mpr h))).2
theorem cr_I {k : Nat} (h : k < 1141) : crI (cr k) = k := (of_decide_eq_true (List.all_eq_true.mp cr_ok k (List.mem_range.mpr h))).1
theorem cr_s {j o : Nat} (ho : o < 161) : cr (14 + 161 * j + o) = bs j + pm o := by
  unfold cr
  rw [if_neg (by omega), if_neg (by omega), if_neg (by omega), if_neg (by omega), if_neg (by omega), show (14 + 161 * j + o - 14) / 161 = j by omega, show (14 + 161 * j + o - 14) % 161 = o by omega]
theorem pm_0 {o : Nat} (h : o < 41) : pm o = o := by unfold pm; rw [if_pos h]
theorem pm_r {r : Nat} (h : r < 40) : pm (41 + 2 * r) = 41 + 3 * r := by unfold pm; rw [if_neg (by omega), if_pos (by omega), if_pos (by omega)]; omega
theorem pm_w {r : Nat} (h : r < 40) : pm (42 + 2 * r) = 42 + 3 * r := by unfold pm; rw [if_neg (by omega), if_pos (by omega), if_neg (by omega)]; omega
theorem pm_m (q : Nat) : pm (121 + q) = 43 + 3 * q := by unfold pm; rw [if_neg (by omega), if_neg (by omega)]; omega
/-- the ints of the start -/
def G0 (k f : Nat) : Int32 :=
  if k = 9 then nI (3 + f) else if k < 14 then 0
  else if (k - 14) % 161 = 0 ∧ f = 5 then nI 4 else if 5 ≤ (k - 14) % 161 ∧ (k - 14) % 161 < 41 ∧ ((k - 14) % 161 - 5) % 3 = 0 ∧ f = 2 then nI 1 else 0
theorem G0_9 (f : Nat) : G0 9 f = nI (3 + f) := by unfold G0; rw [if_pos rfl]
theorem G0_z {k : Nat} (h1 : k ≠ 1) (h9 : k ≠ 9) (h : k < 14) (f : Nat) : G0 k f = 0 := by unfold G0; rw [if_neg h9, if_pos h]
theorem G0_f {k : Nat} (h1 : k ≠ 1) (h9 : k ≠ 9) (h : k < 14) : G0 k = fun _ => 0 := funext (G0_z h1 h9 h)
theorem G0_s {j o : Nat} (ho : o < 161) (f : Nat) : G0 (14 + 161 * j + o) f = if o = 0 ∧ f = 5 then nI 4 else if 5 ≤ o ∧ o < 41 ∧ (o - 5) % 3 = 0 ∧ f = 2 then nI 1 else 0 := by
  unfold G0
  rw [if_neg (by omega), if_neg (by omega), show (14 + 161 * j + o - 14) % 161 = o by omega]
theorem G0_sz {j o f : Nat} (ho : o < 161) (h1 : o = 0 → f ≠ 5) (h2 : 5 ≤ o → o < 41 → (o - 5) % 3 = 0 → f ≠ 2) : G0 (14 + 161 * j + o) f = 0 := by
  rw [G0_s ho, if_neg (fun z => h1 z.1 z.2), if_neg (fun z => h2 z.1 z.2.1 z.2.2.1 z.2.2.2)]
/-- the same object, or an array of references that says the same of its places -/
def eqE (x y : va_E) : Prop := x = y ∨ ∃ (c : ClassId) (n : Nat) (f g : Nat → Option Nat), x = rfs c n f ∧ y = rfs c n g ∧ ∀ p, p < n → f p = g p
theorem eqE_at {D : va_G} {cl : List vw_C} {a : Nat} {x y : va_E} {H : Heap} (h : va_at D cl (a, x) H) (e : eqE x y) : va_at D cl (a, y) H := by
  rcases e with rfl | ⟨c, n, f, g, rfl, rfl, hp⟩
  · exact h
  · have h : H[a]? = some (vp_cell c (n, .inr (.inr (.inr (.inr f))))) := h
    show H[a]? = some (vp_cell c (n, .inr (.inr (.inr (.inr g)))))
    rw [h, vp_cell_q, vp_cell_q]
    unfold arrV
    congr 3
    funext j
    show va_rf (f j.val) = va_rf (g j.val)
    rw [hp j.val j.isLt]
theorem eqE_q {c : ClassId} {n : Nat} {f g : Nat → Option Nat} (h : ∀ p, p < n → f p = g p) : eqE (rfs c n f) (rfs c n g) := Or.inr ⟨c, n, f, g, rfl, rfl, h⟩
section ORD
variable {τ : Nat → ClassId} {b1 b2 : Nat → Nat}
theorem xe_st {j u : Nat} (hj : j < 7) (hu : u < 161) : XE τ b1 (bs j + u) = YE τ (fun x => b1 (bs j + x)) 12 40 u := by
  unfold bs
  by_cases h : j < 3
  · rw [if_pos h, XE_s (by omega) (by omega), show (1 + 161 * j + u - 1) / 161 = j by omega, show (1 + 161 * j + u - 1) % 161 = u by omega]
  · rw [if_neg h, XE_h (by omega) (by omega), HE_s (by omega), show (3 + 161 * j + u - 484 - 2) / 161 = j - 3 by omega, show (3 + 161 * j + u - 484 - 2) % 161 = u by omega]
    exact YE_all (fun x hx => congrArg b1 (show 484 + (2 + 161 * (j - 3) + x) = 3 + 161 * j + x by omega)) hu
def adO (b1 b2 : Nat → Nat) (k : Nat) : Nat := bap 1134 b1 b2 (cr k)
theorem ad_m {k : Nat} (h : k < 7) : adO b1 b2 k = b2 k := by unfold adO cr; rw [if_pos h, bap_ge]
theorem ad_x {k n : Nat} (h : cr k = n) (hn : n < 1134) : adO b1 b2 k = b1 n := by unfold adO; rw [h, bap_lt hn]
theorem bs_lt {j : Nat} (h : j < 7) : bs j + 161 ≤ 1130 := by unfold bs; split <;> omega
theorem ad_s {j o : Nat} (hj : j < 7) (ho : o < 161) : adO b1 b2 (14 + 161 * j + o) = b1 (bs j + pm o) := ad_x (cr_s ho) (by have := bs_lt hj; have := pm_lt ho; omega)
theorem ad_S {j : Nat} (hj : j < 7) : adO b1 b2 (sB j) = b1 (bs j) := ad_s (o := 0) hj (by omega)
theorem ord_1 {k : Nat} (h7 : 6 < k) (hk : k < 14) : eqE (XE τ b1 (cr k)) (kE τ (adO b1 b2) (G0 k) k) := by
  unfold kE
  rw [if_pos hk]
  rcases (show k = 7 ∨ k = 8 ∨ k = 9 ∨ k = 10 ∨ k = 11 ∨ k = 12 ∨ k = 13 by omega) with rfl | rfl | rfl | rfl | rfl | rfl | rfl
  · refine Or.inl ?_
    rw [show cr 7 = 0 from rfl, XE_0]
    show _ = (.inr (6, [.ref (adO b1 b2 (sB 0)), .ref (adO b1 b2 (sB 1)), .ref (adO b1 b2 (sB 2)), .ref (adO b1 b2 8), .ref (adO b1 b2 10), .int (G0 7 5)]) : va_E)
    rw [ad_S (by omega), ad_S (by omega), ad_S (by omega), ad_x (k := 8) (n := 484) rfl (by omega), ad_x (k := 10) (n := 1130) rfl (by omega), G0_z (by omega) (by omega) (by omega)]
    rfl
  · refine Or.inl ?_
    rw [show cr 8 = 484 from rfl, XE_h (by omega) (by omega), show 484 - 484 = 0 from rfl, HE_0]
    show _ = (.inr (2, [.ref (adO b1 b2 9), .int (G0 8 1)]) : va_E)
    rw [ad_x (k := 9) (n := 485) rfl (by omega), G0_z (by omega) (by omega) (by omega)]
  · rw [show cr 9 = 485 from rfl, XE_h (by omega) (by omega), show 485 - 484 = 1 from rfl, HE_1]
    refine eqE_q (g := fun i => some (adO b1 b2 (sB (G0 9 i).toNatClampNeg))) (fun p hp => ?_)
    rw [if_pos hp, G0_9, nI_clamp (by omega), ad_S (by omega)]
    unfold bs
    rw [if_neg (by omega)]
    exact congrArg (fun z => some (b1 z)) (by omega)
  · refine Or.inl ?_
    rw [show cr 10 = 1130 from rfl, XE_t (by omega)]
    show (.inr (5, [.ref (b1 1131), .int 0, .ref (b1 1132), .ref (b1 1133), .int 0]) : va_E) = .inr (5, [.ref (adO b1 b2 11), .int (G0 10 1), .ref (adO b1 b2 12), .ref (adO b1 b2 13), .int (G0 10 4)])
    rw [ad_x (k := 11) (n := 1131) rfl (by omega), ad_x (k := 12) (n := 1132) rfl (by omega), ad_x (k := 13) (n := 1133) rfl (by omega), G0_z (by omega) (by omega) (by omega), G0_z (by omega) (by omega) (by omega)]
  · refine Or.inl ?_
    rw [show cr 11 = 1131 from rfl, XE_t (by omega)]
    show (.inl (τ 1, 60, .inl (fun _ => 0)) : va_E) = .inl (τ 1, 60, .inl (G0 11))
    rw [G0_f (by omega) (by omega) (by omega)]
  · refine Or.inl ?_
    rw [show cr 12 = 1132 from rfl, XE_t (by omega)]
    show (.inl (τ 0, 16, .inl (fun _ => 0)) : va_E) = .inl (τ 0, 16, .inl (G0 12))
    rw [G0_f (by omega) (by omega) (by omega)]
  · refine Or.inl ?_
    rw [show cr 13 = 1133 from rfl, XE_t (by omega)]
    show (.inl (τ 0, 16, .inl (fun _ => 0)) : va_E) = .inl (τ 0, 16, .inl (G0 13))
    rw [G0_f (by omega) (by omega) (by omega)]
theorem kE1_c {ad : Nat → Nat} {r : Nat → Int32} {j o : Nat} (h : 4 < o) (h2 : o < 41) : kE1 τ ad r j o = if (o - 5) % 3 = 0 then .inr (0, [.ref (ad (cV j ((o - 5) / 3))), .ref (ad (cM j ((o - 5) / 3))), .int (r 2)]) else .inl (τ 0, 10, .inl r) := by
  unfold kE1
  rw [if_neg (by omega), if_neg (by omega), if_neg (by omega), if_neg (by omega), if_neg (by omega), if_pos h2]
theorem kE1_r {ad : Nat → Nat} {r : Nat → Int32} {j o : Nat} (h : 40 < o) (h2 : o < 121) : kE1 τ ad r j o = if (o - 41) % 2 = 0 then .inr (3, [.ref (ad (rW j ((o - 41) / 2))), .int (r 1), .int (r 2), .int (r 3), .int (r 4), .int (r 5), .int (r 6), .int (r 7), .int (r 8)]) else .inl (τ 0, 12, .inl r) := by
  unfold kE1
  rw [if_neg (by omega), if_neg (by omega), if_neg (by omega), if_neg (by omega), if_neg (by omega), if_neg (by omega), if_pos h2]
/-- a state's object -/
theorem ord_s {j o : Nat} (hj : j < 7) (ho : o < 161) : eqE (YE τ (fun x => b1 (bs j + x)) 12 40 (pm o)) (kE1 τ (adO b1 b2) (G0 (14 + 161 * j + o)) j o) := by
  have sa : ∀ u, u < 161 → adO b1 b2 (14 + 161 * j + u) = b1 (bs j + pm u) := fun u hu => ad_s hj hu
  rcases (show o = 0 ∨ o = 1 ∨ o = 2 ∨ o = 3 ∨ o = 4 ∨ (4 < o ∧ o < 41) ∨ (40 < o ∧ o < 121) ∨ 120 < o by omega) with z | z | z | z | z | z | z | z
  · subst z
    refine Or.inl ?_
    rw [pm_0 (by omega), YE_0]
    unfold kE1
    rw [if_pos rfl]
    rw [show adO b1 b2 (sC j) = b1 (bs j + 1) from sa 1 (by omega), show adO b1 b2 (sR j) = b1 (bs j + 2) from sa 2 (by omega), show adO b1 b2 (sM j) = b1 (bs j + 3) from sa 3 (by omega), show adO b1 b2 (sD j) = b1 (bs j + 4) from sa 4 (by omega)]
    rw [G0_sz (f := 3) ho (by omega) (by omega), G0_sz (f := 4) ho (by omega) (by omega), G0_s (f := 5) ho, if_pos ⟨rfl, rfl⟩, G0_sz (f := 6) ho (by omega) (by omega), G0_sz (f := 7) ho (by omega) (by omega), G0_sz (f := 8) ho (by omega) (by omega), G0_sz (f := 9) ho (by omega) (by omega)]
  · subst z
    rw [pm_0 (by omega), YE_1]
    unfold kE1
    rw [if_neg (by omega), if_pos rfl]
    refine eqE_q (fun p hp => ?_)
    rw [if_pos hp]
    exact congrArg some (show b1 (bs j + (5 + 3 * p)) = adO b1 b2 (cB j p) by rw [show cB j p = 14 + 161 * j + (5 + 3 * p) by unfold cB; omega, sa _ (by omega), pm_0 (by omega)])
  · subst z
    rw [pm_0 (by omega), YE_2]
    unfold kE1
    rw [if_neg (by omega), if_neg (by omega), if_pos rfl]
    refine eqE_q (fun p hp => ?_)
    rw [if_pos hp]
    exact congrArg some (show b1 (bs j + (41 + 3 * p)) = adO b1 b2 (rN j p) by rw [show rN j p = 14 + 161 * j + (41 + 2 * p) by unfold rN; omega, sa _ (by omega), pm_r hp])
  · subst z
    rw [pm_0 (by omega), YE_3]
    unfold kE1
    rw [if_neg (by omega), if_neg (by omega), if_neg (by omega), if_pos rfl]
    refine eqE_q (fun p hp => ?_)
    rw [if_pos hp]
    exact congrArg some (show b1 (bs j + (43 + 3 * p)) = adO b1 b2 (mC j p) by rw [show mC j p = 14 + 161 * j + (121 + p) by unfold mC; omega, sa _ (by omega), pm_m])
  · subst z
    refine Or.inl ?_
    rw [pm_0 (by omega), YE_4]
    unfold kE1
    rw [if_neg (by omega), if_neg (by omega), if_neg (by omega), if_neg (by omega), if_pos rfl, show G0 (14 + 161 * j + 4) = fun _ => 0 from funext (fun f => G0_sz ho (by omega) (by omega))]
  · refine Or.inl ?_
    rw [pm_0 z.2, YE_c z.1 z.2, kE1_c z.1 z.2]
    by_cases q : (o - 5) % 3 = 0
    · rw [if_pos q, if_pos q]
      rw [show adO b1 b2 (cV j ((o - 5) / 3)) = b1 (bs j + (o + 1)) from by
        rw [show cV j ((o - 5) / 3) = 14 + 161 * j + (o + 1) by unfold cV; omega, sa _ (by omega), pm_0 (by omega)]]
      rw [show adO b1 b2 (cM j ((o - 5) / 3)) = b1 (bs j + (o + 2)) from by
        rw [show cM j ((o - 5) / 3) = 14 + 161 * j + (o + 2) by unfold cM; omega, sa _ (by omega), pm_0 (by omega)]]
      rw [G0_s ho, if_neg (by omega), if_pos ⟨by omega, by omega, q, rfl⟩]
    · rw [if_neg q, if_neg q, show G0 (14 + 161 * j + o) = fun _ => 0 from funext (fun f => G0_sz ho (by omega) (fun _ _ w => absurd w q))]
  · refine Or.inl ?_
    rw [kE1_r z.1 z.2]
    have g0 : G0 (14 + 161 * j + o) = fun _ => 0 := funext (fun f => G0_sz ho (by omega) (by omega))
    rw [g0]
    by_cases q : (o - 41) % 2 = 0
    · obtain ⟨r, hr⟩ : ∃ r, r = (o - 41) / 2 := ⟨_, rfl⟩
      have ho : o = 41 + 2 * r := by omega
      rw [if_pos q, ← hr, ho, pm_r (by omega), YE_r (by omega), if_pos (by omega)]
      rw [show adO b1 b2 (rW j r) = b1 (bs j + (41 + 3 * r + 1)) from by
        rw [show rW j r = 14 + 161 * j + (42 + 2 * r) by unfold rW; omega, sa _ (by omega), pm_w (by omega), show 42 + 3 * r = 41 + 3 * r + 1 by omega]]
    · obtain ⟨r, hr⟩ : ∃ r, r = (o - 42) / 2 := ⟨_, rfl⟩
      have ho : o = 42 + 2 * r := by omega
      rw [if_neg q, ho, pm_w (by omega), YE_r (by omega), if_neg (by omega), if_pos (by omega)]
  · refine Or.inl ?_
    unfold kE1
    rw [if_neg (by omega), if_neg (by omega), if_neg (by omega), if_neg (by omega), if_neg (by omega), if_neg (by omega), if_neg (by omega)]
    have g0 : G0 (14 + 161 * j + o) = fun _ => 0 := funext (fun f => G0_sz ho (by omega) (by omega))
    rw [g0, show o = 121 + (o - 121) by omega, pm_m, YE_r (by omega), if_neg (by omega), if_neg (by omega)]
def sE (τ : Nat → ClassId) : va_E := .inl (τ 0, 40, .inl (fun _ => 0))
theorem ord_e {k : Nat} (hk : kZ k) : eqE (if cr k < 1134 then XE τ b1 (cr k) else sE τ) (kE τ (adO b1 b2) (G0 k) k) := by
  obtain ⟨hk, hz⟩ := hk
  unfold kN at hk
  by_cases h1 : k = 0
  · subst h1
    rw [show cr 0 = 1134 from rfl, if_neg (by omega)]
    refine Or.inl ?_
    show (.inl (τ 0, 40, .inl (fun _ => 0)) : va_E) = .inl (τ 0, 40, .inl (G0 0))
    rw [G0_f (by omega) (by omega) (by omega)]
  · by_cases h2 : k < 14
    · rw [if_pos (by unfold cr; rw [if_neg (by omega)]; split <;> first | omega | (split <;> first | omega | (split <;> first | omega | (rw [if_pos h2]; omega))))]
      exact ord_1 (by omega) h2
    · obtain ⟨j, o, hj, ho, rfl⟩ : ∃ j o, j < 7 ∧ o < 161 ∧ k = 14 + 161 * j + o := ⟨(k - 14) / 161, (k - 14) % 161, by omega, by omega, by omega⟩
      rw [cr_s ho, if_pos (by have := bs_lt hj; have := pm_lt ho; omega), xe_st hj (pm_lt ho)]
      unfold kE
      rw [if_neg h2, show (14 + 161 * j + o - 14) / 161 = j by omega, show (14 + 161 * j + o - 14) % 161 = o by omega]
      exact ord_s hj ho
set_option maxRecDepth 100000 in
theorem cr_ok2 : (List.range 1141).all (fun k => decide (k = 0 ∨ k < 7 ∨ cr k < 1134)) = true := by decide +kernel
theorem cr_lt2 {k : Nat} (h : kZ k) : cr k < 1135 := by
  have h2 := of_decide_eq_true (List.all_eq_true.mp cr_ok2 k (List.mem_range.mpr h.1))
  obtain ⟨-, h3⟩ := h
  rcases h2 with z | z | z
  · rw [z]; exact Nat.le_of_ble_eq_true rfl
  · rw [show k = 0 by omega]; exact Nat.le_of_ble_eq_true rfl
  · omega
/-- the one world, out of what was made -/
theorem ord_all {D : va_G} {A : Nat → Prop} {H : Heap} {q : Nat} (hP : va_P D vwCl (gW 1134 b1 (XE τ b1) ++ [(q, sE τ)]) H) (hD : va_D A (gW 1134 b1 (XE τ b1) ++ [(q, sE τ)])) : va_P D vwCl (kW τ (adO b1 (fun _ => q)) G0) H ∧ kInj (adO b1 (fun _ => q)) ∧ ∀ k, kZ k → A (adO b1 (fun _ => q) k) := by
  rw [gW_push] at hP hD
  have at_ : ∀ k, kZ k → (gW (1134 + 1) (fun k => if k < 1134 then b1 k else q) (fun k => if k < 1134 then XE τ b1 k else sE τ))[cr k]? = some (adO b1 (fun _ => q) k, if cr k < 1134 then XE τ b1 (cr k) else sE τ) := fun k hk => gW_get (cr_lt2 hk)
  refine ⟨fun i p hp => ?_, fun i j hi hj e => ?_, fun k hk => hD.2 _ _ (at_ k hk)⟩
  · by_cases hi : i < 1135
    · obtain ⟨h1, h2⟩ := kZ_of hi
      have q1 := kW_get (τ := τ) (ad := adO b1 (fun _ => q)) (G := G0) h1
      rw [h2, hp] at q1
      cases q1
      exact eqE_at (hP _ _ (at_ _ h1)) (ord_e h1)
    · rw [kW_none hi] at hp
      cases hp
  · have h := hD.1 _ _ _ _ (at_ i hi) (at_ j hj) e
    rw [← cr_I hi.1, ← cr_I hj.1, h]
end ORD
