/-! tick, told of the state's numbers. -/
def ZT (G0 : Nat → Nat → Int32) (j : Nat) (N0 : Nat → Int32) (n k W0 : Nat) (ow : Nat → Nat) (i : Nat) (dc : Int32) (G : Nat → Nat → Int32) : Prop :=
  (∃ P mo vx, CurR G j (tkI n (N0, W0, 0) i).1 n k (tkI n (N0, W0, 0) i).2.1 P mo ow vx) ∧ (dc = 0 → ∀ r, r < n → G (sD j) r = dueM (tkI n (N0, W0, 0) i).1 (tkI n (N0, W0, 0) i).2.1 n r) ∧ (∀ q, (q < sB j ∨ sB j + 161 ≤ q) → G q = G0 q) ∧ cn (fun r => if (tkI n (N0, W0, 0) i).1 (9 + 20 * r + 2) = nI 3 then 1 else 0) n = cn (fun r => if N0 (9 + 20 * r + 2) = nI 3 then 1 else 0) n + (tkI n (N0, W0, 0) i).2.2 ∧ (tkI n (N0, W0, 0) i).1 1 = N0 1 + nI i
theorem zt_w {G0 G : Nat → Nat → Int32} {j : Nat} {N0 : Nat → Int32} {n k W0 : Nat} {ow : Nat → Nat} {i : Nat} {dc : Int32} (h : ZT G0 j N0 n k W0 ow i dc G) : ∃ P, PLS G j n P := by
  obtain ⟨⟨P, mo, vx, hC⟩, -⟩ := h
  exact ⟨P, (cu_sc hC.1).2.2.2.1, cu_hp hC.1⟩
theorem zt_s {G0 G G5 : Nat → Nat → Int32} {j : Nat} {N0 : Nat → Int32} {n k W0 : Nat} {ow : Nat → Nat} {i : Nat} {dc dc' : Int32} {P' : Nat → Nat} (h : ZT G0 j N0 n k W0 ow i dc G) (hp : PLS G j n P') (ht : TKS G G5 j n P' dc dc') : ZT G0 j N0 n k W0 ow (i + 1) dc' G5 := by
  obtain ⟨⟨P, mo, vx, hC⟩, h2, h3, h4, h5⟩ := h
  have hC := cur_P (P' := P') hC (fun c hc => by
    have a := (cu_hp hC.1 c hc)
    have b := hp.2 c hc
    exact nI_in50 (by omega) (by omega) (b.1.symm.trans a.1))
  obtain ⟨W2, P2, mo2, vx2, c1, c2, c3, c4, c5, c6⟩ := tick_step hC h2 ht
  have e : tkI n (N0, W0, 0) (i + 1) = tkS n (tkI n (N0, W0, 0) i) := rfl
  refine ⟨⟨P2, mo2, vx2, ?_⟩, ?_, fun q hq => by rw [c4 q hq]; exact h3 q hq, ?_, ?_⟩
  · rw [e, tkS]; rw [c2] at c1; exact c1
  · rw [e, tkS]; rw [c2] at c3; exact c3
  · rw [e, tkS]
    dsimp only
    rw [c5, h4, Nat.add_assoc]
  · rw [e, tkS]
    dsimp only
    rw [c6, h5, Int32.add_assoc, nI_add]
theorem zt_0 {G0 : Nat → Nat → Int32} {j : Nat} {N0 : Nat → Int32} {n k W0 : Nat} {P : Nat → Nat} {mo : Nat → Nat → Nat} {ow : Nat → Nat} {vx : Nat → Nat → Nat} (h : CurR G0 j N0 n k W0 P mo ow vx) : ZT G0 j N0 n k W0 ow 0 (nI 1) G0 :=
  ⟨⟨P, mo, vx, h⟩, fun w => absurd w (by decide), fun _ _ => rfl, rfl, by rw [nI_0, Int32.add_zero]; rfl⟩
def tikS (N : Nat → Int32) (y : Int32) : Int32 × Option (Nat → Int32) := if nI 1 ≤ y ∧ y ≤ nI 60 then (nI (tkI (nZ (N 2)) (N, nZ (N 8), 0) y.toNatClampNeg).2.2, some (tkI (nZ (N 2)) (N, nZ (N 8), 0) y.toNatClampNeg).1) else (-2, none)
theorem ln_tick (l : Launch) {D : va_G} {τ : Nat → ClassId} {ad : Nat → Nat} (hI : kInj ad) {G : Nat → Nat → Int32} {N : Nat → Int32} {L : Nat} {Hs : Nat → Nat → Int32} {y : Int32} (hR : RLN G N L Hs) : kM l yX6_tick cX6_tick 3 (some .int) { frames := 6, cells := 0, slots := 0, locals := 140 } D τ ad [.ref (ad 7), .int y] G (fun v G1 => PSTn G N L Hs (tikS N y) v G1) := by
  obtain ⟨⟨n, k, W, P, mo, ow, vx, hC⟩, pi, hH⟩ := hR
  obtain ⟨p1, p2, p3, p4, ⟨p5, p6, p7, p8⟩, p9, p10, p11, ⟨p12, p13, p14⟩, p15, p16, p17, p19⟩ := pre_n hC hH
  have n2 := nZ_of p15 (by omega)
  have n6 := nZ_of p16 (by omega)
  have n8 := nZ_of p12 (by omega)
  refine kM_mono (c_X6_tick l hI p1 p2 p3 p4 p5 p6 p7 p8 p9 p10 (fun Gr i dc G1 => ZT Gr 0 N n k W ow i dc G1) (fun Gr i dc G1 => ZT Gr 0 N n k W ow i dc G1) (fun _ _ _ _ z => zt_w z) (fun _ _ _ _ _ _ _ z1 z2 z3 => zt_s z1 z2 z3) (fun _ _ _ _ z => z) (fun Gr z => zt_0 (cur_r hC z p2 p4))) (fun v G1 hc => ?_)
  have es : tikS N y = if nI 1 ≤ y ∧ y ≤ nI 60 then (nI (tkI n (N, W, 0) y.toNatClampNeg).2.2, some (tkI n (N, W, 0) y.toNatClampNeg).1) else (-2, none) := by unfold tikS; rw [n2, n8]
  by_cases z1 : nI 1 ≤ y ∧ y ≤ nI 60
  · rw [if_pos z1] at hc es
    obtain ⟨Gr, dc, g1, ⟨⟨P', mo', vx', hC'⟩, q2, q3, q4, q5⟩, rfl⟩ := hc
    have hG1 : ∀ q, q < 14 ∨ 175 ≤ q → G1 q = Gr q := fun q hq => q3 q (by unfold sB; omega)
    have hCr := cur_r hC g1 p2 p4
    refine pn_a ?_ (act_n hH hC g1 hG1 ⟨n, k, _, P', mo', ow, vx', hC'⟩)
    rw [es, an_states hC'.1, an_states hCr.1, q4, pk_sub (by omega), Nat.add_sub_cancel_left]
  · rw [if_neg z1] at hc es
    obtain ⟨rfl, rfl⟩ := hc
    exact pn_e es
