/-! Contracts of the class and the reference, one behind the other: tick, lasts. -/
def ZT (G0 : Nat → Nat → Int32) (j : Nat) (N0 : Nat → Int32) (n k W0 : Nat) (ow : Nat → Nat) (i : Nat) (dc : Int32) (G : Nat → Nat → Int32) : Prop :=
  (∃ P mo vx, CurR G j (tkI n (N0, W0, 0) i).1 n k (tkI n (N0, W0, 0) i).2.1 P mo ow vx) ∧ (dc = 0 → ∀ r, r < n → G (sD j) r = dueM (tkI n (N0, W0, 0) i).1 (tkI n (N0, W0, 0) i).2.1 n r) ∧ (∀ q, (q < sB j ∨ sB j + 161 ≤ q) → G q = G0 q) ∧ cn (fun r => if (tkI n (N0, W0, 0) i).1 (9 + 20 * r + 2) = nI 3 then 1 else 0) n = cn (fun r => if N0 (9 + 20 * r + 2) = nI 3 then 1 else 0) n + (tkI n (N0, W0, 0) i).2.2 ∧ (tkI n (N0, W0, 0) i).1 1 = N0 1 + nI i
theorem zt_w {G0 G : Nat → Nat → Int32} {j : Nat} {N0 : Nat → Int32} {n k W0 : Nat} {ow : Nat → Nat} {i : Nat} {dc : Int32} (h : ZT G0 j N0 n k W0 ow i dc G) : ∃ P, PLS G j n P := by
  obtain ⟨⟨P, mo, vx, hC⟩, -⟩ := h
  exact ⟨P, (cu_sc hC.1).2.2.2.1, cu_hp hC.1⟩
theorem zt_s {G0 G G5 : Nat → Nat → Int32} {j : Nat} {N0 : Nat → Int32} {n k W0 : Nat} {ow : Nat → Nat} {i : Nat} {dc dc' : Int32} {P' : Nat → Nat} (h : ZT G0 j N0 n k W0 ow i dc G) (hp : PLS G j n P') (ht : TKS G G5 j n P' dc dc') : ZT G0 j N0 n k W0 ow (i + 1) dc' G5 := by
  obtain ⟨⟨P, mo, vx, hC⟩, h2, h3, h4, h5⟩ := h
  have hC := cur_P (P' := P') hC (fun c hc => by
    have a := (cu_hp hC.1 c hc)
    have b := hp.2 c hc
    exact nI_in50 (by omega) (by omega) (b.1.symm.trans a.1))
  obtain ⟨W2, P2, mo2, vx2, c1, c2, c3, c4, c5, c6⟩ := tick_step hC h2 ht
  have e : tkI n (N0, W0, 0) (i + 1) = tkS n (tkI n (N0, W0, 0) i) := rfl
  refine ⟨⟨P2, mo2, vx2, ?_⟩, ?_, fun q hq => by rw [c4 q hq]; exact h3 q hq, ?_, ?_⟩
  · rw [e, tkS]; rw [c2] at c1; exact c1
  · rw [e, tkS]; rw [c2] at c3; exact c3
  · rw [e, tkS]
    dsimp only
    rw [c5, h4, Nat.add_assoc]
  · rw [e, tkS]
    dsimp only
    rw [c6, h5, Int32.add_assoc, nI_add]
theorem zt_0 {G0 : Nat → Nat → Int32} {j : Nat} {N0 : Nat → Int32} {n k W0 : Nat} {P : Nat → Nat} {mo : Nat → Nat → Nat} {ow : Nat → Nat} {vx : Nat → Nat → Nat} (h : CurR G0 j N0 n k W0 P mo ow vx) : ZT G0 j N0 n k W0 ow 0 (nI 1) G0 :=
  ⟨⟨P, mo, vx, h⟩, fun w => absurd w (by decide), fun _ _ => rfl, rfl, by rw [nI_0, Int32.add_zero]; rfl⟩
theorem lw_tick (l : Launch) {D : va_G} {τ : Nat → ClassId} {ad : Nat → Nat} (hI : kInj ad) {G : Nat → Nat → Int32} (hR : REL G) {y : Int32} : kM l yX6_tick cX6_tick 3 (some .int) { frames := 6, cells := 0, slots := 0, locals := 140 } D τ ad [.ref (ad 7), .int y] G (fun v G1 => kM l yX7_tick cX7_tick 4 (some .int) { frames := 7, cells := 0, slots := 0, locals := 161 } D τ ad [.ref (ad 0), .int y] G1 (fun w G2 => w = v ∧ REL G2)) := by
  have hR0 := hR
  obtain ⟨⟨n, k, W, P, mo, ow, vx, hC⟩, ⟨L, pi, hH⟩, hS⟩ := hR
  obtain ⟨p1, p2, p3, p4, ⟨p5, p6, p7, p8⟩, p9, p10, p11, ⟨p12, p13, p14⟩, p15, p16, p17, p18, p19⟩ := pre_of hC hH
  refine kM_mono (c_X6_tick l hI p1 p2 p3 p4 p5 p6 p7 p8 p9 p10 (fun Gr i dc G1 => ZT Gr 0 (G 1) n k W ow i dc G1) (fun Gr i dc G1 => ZT Gr 0 (G 1) n k W ow i dc G1) (fun _ _ _ _ z => zt_w z) (fun _ _ _ _ _ _ _ z1 z2 z3 => zt_s z1 z2 z3) (fun _ _ _ _ z => z) (fun Gr z => zt_0 (cur_r hC z p2 p4))) (fun v G1 hc => ?_)
  by_cases z1 : nI 1 ≤ y ∧ y ≤ nI 60
  · rw [if_pos z1] at hc
    obtain ⟨Gr, dc, g1, ⟨⟨P', mo', vx', hC'⟩, q2, q3, q4, q5⟩, rfl⟩ := hc
    have e0 := rcR_0 g1 p2 p4
    have hG1 : ∀ q, q < 14 ∨ 175 ≤ q → G1 q = Gr q := fun q hq => q3 q (by unfold sB; omega)
    have hfr : ∀ q, q < 7 → G1 q = G q := fun q hq => by rw [hG1 q (by omega)]; exact e0 q (by omega) (by omega) (by omega)
    refine kM_mono (c_X7_tick l hI (Wn := W) (n := n) (L := L) (by rw [hfr 1 (by omega)]; exact p12) p13 (by omega) (by rw [hfr 1 (by omega)]; exact p15) p6 (by rw [hfr 0 (by omega)]; exact p18) p2) (fun w G2 hm => ?_)
    rw [if_pos z1, hfr 1 (by omega)] at hm
    obtain ⟨rfl, m2, m3⟩ := hm
    have hCr := cur_r hC g1 p2 p4
    refine ⟨?_, act_rel hS hH hC g1 hG1 (fun q q1 q6 => m3 q q1 q6) (by rw [m2]; exact ⟨n, k, _, P', mo', ow, vx', hC'⟩)⟩
    rw [an_states hC'.1, an_states hCr.1, q4, pk_sub (by omega), Nat.add_sub_cancel_left]
  · rw [if_neg z1] at hc
    obtain ⟨rfl, rfl⟩ := hc
    refine kM_mono (c_X7_tick l hI (Wn := W) (n := n) (L := L) p12 p13 (by omega) p15 p6 p18 p2) (fun w G2 hm => ?_)
    rw [if_neg z1] at hm
    exact ⟨hm.1, by rw [hm.2]; exact hR0⟩
theorem ls_run (s0 : (Nat → Int32) × Nat × Nat) (r n : Nat) : ∀ k t i, t ≤ i → i ≤ 201 → k + t = 202 → (∀ u, t ≤ u → u < i → (tkI n s0 u).1 (9 + 20 * r + 2) = 0) → (i = 201 ∨ ¬ (tkI n s0 i).1 (9 + 20 * r + 2) = 0) → lsR n r k (tkI n s0 t) t = i := by
  intro k
  induction k with
  | zero => intro t i h1 h2 h3; omega
  | succ k ih =>
    intro t i h1 h2 h3 h4 h5
    rcases Nat.lt_or_ge t i with q | q
    · rw [lsR_s (by omega) (h4 t (Nat.le_refl t) q) (by omega)]
      exact ih (t + 1) i (by omega) h2 (by omega) (fun u u1 u2 => h4 u (by omega) u2) h5
    · have e : t = i := by omega
      subst e
      refine lsR_z (fun w => ?_)
      rcases h5 with z | z
      · omega
      · exact z w.1
theorem lw_lasts (l : Launch) {D : va_G} {τ : Nat → ClassId} {ad : Nat → Nat} (hI : kInj ad) {G : Nat → Nat → Int32} (hR : REL G) {x : Int32} : kM l yX6_lasts cX6_lasts 2 (some .int) { frames := 6, cells := 0, slots := 0, locals := 140 } D τ ad [.ref (ad 7), .int x] G (fun v G1 => kM l yX7_lasts cX7_lasts 3 (some .int) { frames := 7, cells := 0, slots := 0, locals := 161 } D τ ad [.ref (ad 0), .int x] G1 (fun w G2 => w = v ∧ REL G2)) := by
  have hR0 := hR
  obtain ⟨⟨n, k, W, P, mo, ow, vx, hC⟩, ⟨L, pi, hH⟩, hS⟩ := hR
  obtain ⟨p1, p2, p3, p4, ⟨p5, p6, p7, p8⟩, p9, p10, p11, ⟨p12, p13, p14⟩, p15, p16, p17, p18, p19⟩ := pre_of hC hH
  refine kM_mono (c_X6_lasts l hI p5 p6 p7 p8 p9 p10 (fun r Gr i dc G1 => ZT Gr 1 (G 1) n k W ow i dc G1 ∧ ∀ t, t ≤ i → (tkI n (G 1, W, 0) t).1 (9 + 20 * r + 2) = 0) (fun r Gr i dc G1 => ZT Gr 1 (G 1) n k W ow i dc G1 ∧ ∀ t, t < i → (tkI n (G 1, W, 0) t).1 (9 + 20 * r + 2) = 0) (fun _ _ _ _ _ z => zt_w z.1) (fun _ _ _ _ _ _ _ _ _ _ z1 z2 z3 => ⟨zt_s z1.1 z2 z3, fun t ht => z1.2 t (by omega)⟩) (fun r Gr i dc G1 hr z1 z2 => ⟨z1.1, fun t ht => ?_⟩) (fun r Gr hr z1 z2 => ⟨zt_0 (cur_CB hC (CPY_cb z2)), fun t ht => ?_⟩)) (fun v G1 hc => ?_)
  · rcases Nat.lt_or_ge t i with q | q
    · exact z1.2 t q
    · have e : t = i := by omega
      subst e
      obtain ⟨⟨P', mo', vx', hC'⟩, -⟩ := z1.1
      rw [← (cu_rd hC'.1 hr).1]; exact z2
  · have e : t = 0 := by omega
    subst e
    show G 1 (9 + 20 * r + 2) = 0
    rw [← (cu_rd hC.1 hr).1]; exact z1
  have ref := fun (G1 : Nat → Nat → Int32) (h : ∀ q, q < 7 → G1 q = G q) (R' : Int32 → (Nat → Nat → Int32) → Prop) hh => kM_mono (D := D) (τ := τ) (R' := R') (c_X7_lasts l hI (G := G1) (x := x) (Wn := W) (n := n) (by rw [h 1 (by omega)]; exact p12) p13 (by omega) (by rw [h 1 (by omega)]; exact p15) p6) hh
  rcases rdP_yn hc with ⟨r, r1, r2, hc⟩ | ⟨r1, rfl, rfl⟩
  · try dsimp only at hc
    rw [(cu_rd hC.1 r1).1] at hc
    by_cases z2 : G 1 (9 + 20 * r + 2) = 0
    · rw [if_pos z2] at hc
      obtain ⟨Gr, g1, hZ, rfl⟩ := hc
      -- how far it went
      have hrun : ∃ i dc, i ≤ 200 ∧ ZT Gr 1 (G 1) n k W ow i dc G1 ∧ (∀ t, t < i → (tkI n (G 1, W, 0) t).1 (9 + 20 * r + 2) = 0) ∧ (G1 (rN 1 r) 1 = 0 → i = 200) := by
        rcases hZ with ⟨dc, a, b⟩ | ⟨i, dc, h200, ⟨a, b⟩, c⟩
        · exact ⟨200, dc, by omega, a, fun t ht => b t (by omega), fun _ => rfl⟩
        · exact ⟨i, dc, h200, a, b, fun w => absurd w c⟩
      obtain ⟨i, dc, h200, ⟨⟨P', mo', vx', hC'⟩, q2, q3, q4, q5⟩, hop, hend⟩ := hrun
      have hst : G1 (rN 1 r) 1 = (tkI n (G 1, W, 0) i).1 (9 + 20 * r + 2) := (cu_rd hC'.1 r1).1
      have hG1 : ∀ q, q < 175 ∨ 336 ≤ q → G1 q = G q := fun q hq => by rw [q3 q (by unfold sB; omega)]; exact g1.1 q (by unfold sB; omega)
      refine ref _ (fun q hq => hG1 q (by omega)) _ (fun w G2 hm => ?_)
      have hm := hm.1 r r1 r2
      try dsimp only at hm
      rw [hG1 1 (by omega), if_pos z2] at hm
      obtain ⟨rfl, m1, m2, m3⟩ := hm
      have hb : ∀ q, q ≠ 1 → q ≠ 2 → q ≠ 6 → q < 175 ∨ 336 ≤ q → G2 q = G q := fun q h1 h2 h6 hq => (m1 q h1 h2 h6).trans (hG1 q hq)
      refine ⟨?_, curE_f hR0.1 (fun o ho => hb _ (by unfold sB; omega) (by unfold sB; omega) (by unfold sB; omega) (by unfold sB; omega)) (fun f hf => m2 f hf), rst_f hR0.2 (fun q hq => hb q (by omega) (by omega) (by omega) (by omega)) (fun f hf => by rw [m3 f hf, hG1 2 (by omega)]) (hb 3 (by omega) (by omega) (by omega) (by omega)) (hb 11 (by omega) (by omega) (by omega) (by omega)) (hb 9 (by omega) (by omega) (by omega) (by omega)) (by rw [hb 8 (by omega) (by omega) (by omega) (by omega)]) (by rw [hb 7 (by omega) (by omega) (by omega) (by omega)]) (by rw [hb 10 (by omega) (by omega) (by omega) (by omega)]) (by rw [hb 0 (by omega) (by omega) (by omega) (by omega)]) (by rw [hb 0 (by omega) (by omega) (by omega) (by omega)]) (by rw [hb 0 (by omega) (by omega) (by omega) (by omega)])⟩
      by_cases z3 : G1 (rN 1 r) 1 = 0
      · have e := hend z3
        subst e
        have hl : lsR n r 202 (G 1, W, 0) 0 = 201 := ls_run (G 1, W, 0) r n 202 0 201 (by omega) (by omega) (by omega) (fun u _ hu => by
          rcases Nat.lt_or_ge u 200 with q | q
          · exact hop u q
          · have e : u = 200 := by omega
            subst e
            rw [← hst]; exact z3) (Or.inl rfl)
        rw [hl, if_pos z3, if_pos (by omega)]
      · have hl : lsR n r 202 (G 1, W, 0) 0 = i := ls_run (G 1, W, 0) r n 202 0 i (by omega) (by omega) (by omega) (fun u _ hu => hop u hu) (Or.inr (by rw [← hst]; exact z3))
        have e4 : G1 (sB 1) 4 = (tkI n (G 1, W, 0) i).1 1 := (cu_sc hC'.1).2.1
        have e5 : G1 (sB 0) 4 = G 1 1 := by rw [hG1 _ (by unfold sB; omega)]; exact (cu_sc hC.1).2.1
        rw [hl, if_neg z3, if_neg (by omega), e4, e5, q5, Int32.add_comm, Int32.add_sub_cancel]
    · rw [if_neg z2] at hc
      obtain ⟨rfl, rfl⟩ := hc
      refine ref _ (fun _ _ => rfl) _ (fun w G2 hm => ?_)
      have hm := hm.1 r r1 r2
      try dsimp only at hm
      rw [if_neg z2] at hm
      exact ⟨hm.1, by rw [hm.2]; exact hR0⟩
  · refine ref _ (fun _ _ => rfl) _ (fun w G2 hm => ?_)
    have hm := hm.2 r1
    exact ⟨hm.1, by rw [hm.2]; exact hR0⟩
