/-! commit, the class and the reference, one behind the other. -/
theorem ruR_P {G G' : Nat → Nat → Int32} {j n : Nat} {P P' : Nat → Nat} {v : Int32} (h : ruR G G' j n P v) (hP : ∀ c, c < 12 → P' c = P c) : ruR G G' j n P' v := by
  obtain ⟨v1, v2, v3, v4, v5⟩ := h
  have hs : ∀ c, c < 12 → snF G j n P' c = snF G j n P c := fun c hc => by unfold snF; rw [hP c hc]
  refine ⟨?_, fun c hc => by rw [hs c hc, hP c hc]; exact v2 c hc, v3, v4, v5⟩
  rw [v1]
  congr 1
  exact cn_congr (fun c hc => by rw [hs c hc, hP c hc])
theorem lw_commit (l : Launch) {D : va_G} {τ : Nat → ClassId} {ad : Nat → Nat} (hI : kInj ad) {G : Nat → Nat → Int32} (hR : REL G) {x : Int32} : kM l yX6_commit cX6_commit 3 (some .int) { frames := 4, cells := 0, slots := 0, locals := 106 } D τ ad [.ref (ad 7), .int x] G (fun v G1 => kM l yX7_commit cX7_commit 2 (some .int) { frames := 6, cells := 0, slots := 0, locals := 138 } D τ ad [.ref (ad 0), .int x] G1 (fun w G2 => w = v ∧ REL G2)) := by
  have hR0 := hR
  obtain ⟨⟨n, k, W, P, mo, ow, vx, hC⟩, ⟨L, pi, hH⟩, hS⟩ := hR
  obtain ⟨p1, p2, p3, p4, ⟨p5, p6, p7, p8⟩, p9, p10, p11, ⟨p12, p13, p14⟩, p15, p16, p17, p18, p19⟩ := pre_of hC hH
  have hkk : ∀ r, r < n → G 1 (9 + 20 * r + 2) = 0 → k < 40 := fun r hr ho => by
    have : opn (G 1) n ≠ 0 := cn_pos hr (by rw [if_pos ho]; omega)
    have := hC.2.1.1
    omega
  refine kM_mono (c_X6_commit l hI p1 p2 p3 p4 p5 p6 p7 p8 p9 p10 p11 p19 (fun r hr ho => hkk r hr (by rw [← (cu_rd hC.1 hr).1]; exact ho))) (fun v G1 hc => ?_)
  have ref := fun (G1 : Nat → Nat → Int32) (h : ∀ q, q < 7 → G1 q = G q) (R' : Int32 → (Nat → Nat → Int32) → Prop) hh => kM_mono (D := D) (τ := τ) (R' := R') (c_X7_commit l hI (G := G1) (x := x) (Wn := W) (n := n) (k := k) (mm := k) (L := L) (by rw [h 1 (by omega)]; exact p12) p13 p14 (by rw [h 1 (by omega)]; exact p15) p6 (by rw [h 1 (by omega)]; exact p16) (by rw [h 1 (by omega)]; exact hkk) p8 (by rw [h 1 (by omega)]; exact p17) (by rw [h 0 (by omega)]; exact p18) p2) hh
  rcases rdP_yn hc with ⟨r, r1, r2, hc⟩ | ⟨r1, rfl, rfl⟩
  · obtain ⟨c1, c2, c3, c4, c5, c6, c7, c8, c9, c10, c11, c12⟩ := cu_rd hC.1 r1
    obtain ⟨s1, s2, s3, s4, s5, s6, s7, s8, s9, s10, s11, s12⟩ := cu_sc hC.1
    try dsimp only at hc
    rw [c1, ← cu_conf hC.1 r1, ← cu_skew hC.1 p8 r1, s9] at hc
    by_cases z1 : G 1 (9 + 20 * r + 2) = 0
    · rw [if_pos z1] at hc
      have hk40 := hkk r r1 z1
      by_cases z2 : cn (cfM (G 1) W r) 12 ≠ 0
      · rw [if_pos z2] at hc
        obtain ⟨rfl, rfl⟩ := hc
        refine ref _ (fun _ _ => rfl) _ (fun w G2 hm => ?_)
        have hm := hm.1 r r1 r2
        try dsimp only at hm
        rw [if_pos z1, if_pos z2] at hm
        exact ⟨hm.1, by rw [hm.2]; exact hR0⟩
      · rw [if_neg z2] at hc
        have hsk : (¬ G 1 7 = 0 ∧ ¬ nI (cn (ssM (G 1) r) k) ≤ 0) ↔ (G 1 7 = nI 1 ∧ ¬ nI (cn (ssM (G 1) r) k) ≤ 0) := by
          rcases s10 with q | q
          · rw [q]; exact ⟨fun w => absurd rfl w.1, fun w => absurd w.1 (by decide)⟩
          · rw [q]; exact ⟨fun w => ⟨rfl, w.2⟩, fun w => ⟨by decide, w.2⟩⟩
        by_cases z3 : ¬ G 1 7 = 0 ∧ ¬ nI (cn (ssM (G 1) r) k) ≤ 0
        · rw [if_pos z3] at hc
          obtain ⟨rfl, rfl⟩ := hc
          refine ref _ (fun _ _ => rfl) _ (fun w G2 hm => ?_)
          have hm := hm.1 r r1 r2
          try dsimp only at hm
          rw [if_pos z1, if_neg z2, if_pos (hsk.mp z3)] at hm
          exact ⟨hm.1, by rw [hm.2]; exact hR0⟩
        · rw [if_neg z3] at hc
          obtain ⟨fe1, fe2⟩ := full_eq hC r1 hk40
          have hfull : nI (cmV (G 1) r k k n W) - nI 12 = sm (ovF G 0 n r P) 12 := by
            rw [fe1, fe2, pk_sub (by omega), Nat.add_sub_cancel_left]
          by_cases z4 : nI 40 < sm (ovF G 0 n r P) 12
          · rw [if_pos z4] at hc
            obtain ⟨rfl, rfl⟩ := hc
            refine ref _ (fun _ _ => rfl) _ (fun w G2 hm => ?_)
            have hm := hm.1 r r1 r2
            try dsimp only at hm
            rw [if_pos z1, if_neg z2, if_neg (fun w => z3 (hsk.mpr w)), hfull, if_pos z4] at hm
            obtain ⟨rfl, m1, m2, m3⟩ := hm
            refine ⟨rfl, curE_f hR0.1 (fun o ho => m1 _ (by unfold sB; omega) (by unfold sB; omega)) (fun f hf => m2 f hf), rst_f hR0.2 (fun q hq => m1 q (by omega) (by omega)) m3 (m1 3 (by omega) (by omega)) (m1 11 (by omega) (by omega)) (m1 9 (by omega) (by omega)) (by rw [m1 8 (by omega) (by omega)]) (by rw [m1 7 (by omega) (by omega)]) (by rw [m1 10 (by omega) (by omega)]) (by rw [m1 0 (by omega) (by omega)]) (by rw [m1 0 (by omega) (by omega)]) (by rw [m1 0 (by omega) (by omega)])⟩
          · rw [if_neg z4] at hc
            obtain ⟨Gr, Gl, u, g1, g2, g3, rfl⟩ := hc
            have e0 := rcR_0 g1 p2 p4
            have hGl := LNR_f hk40 (by omega) g2
            have hG1 : ∀ q, q < 14 ∨ 175 ≤ q → G1 q = Gr q := fun q hq => by
              rw [g3.2.2.2.2 q (by unfold sB; omega) (fun c hc => ⟨by unfold cB; omega, by unfold cV; omega, by unfold cM; omega⟩), gs_other (by unfold rN; omega)]
              exact hGl q hq
            have hfr : ∀ q, q < 7 → G1 q = G q := fun q hq => by rw [hG1 q (by omega)]; exact e0 q (by omega) (by omega) (by omega)
            refine ref _ hfr _ (fun w G2 hm => ?_)
            have hm := hm.1 r r1 r2
            try dsimp only at hm
            rw [hfr 1 (by omega), if_pos z1, if_neg z2, if_neg (fun w => z3 (hsk.mpr w)), hfull, if_neg z4] at hm
            obtain ⟨Gt, ⟨m1, m2, m3⟩, rfl, rfl⟩ := hm
            have hN1 : ∀ f, f < 1201 → Gt 1 f = G 1 f := fun f hf => by rw [m2 f hf, hfr 1 (by omega)]
            have hC1 : CurR G 0 (Gt 1) n k W P mo ow vx := cur_N hC hN1
            have hCr : CurR Gr 0 (Gt 1) n k W P mo ow vx := cur_r hC1 g1 p2 p4
            obtain ⟨fe3, fe4⟩ := full_eq hC1 r1 hk40
            have hV : cmV (Gt 1) r k k n W ≤ 52 := by
              rw [fe4] at z4
              have hle : cn (fun c => bcn (xcF G n r P (Gt 1 (9 + 20 * r + 4)) c) 10) 12 ≤ 40 := by
                refine Classical.byContradiction (fun q => z4 (nI_lt (by omega) ?_))
                have hb : cn (fun c => bcn (xcF G n r P (Gt 1 (9 + 20 * r + 4)) c) 10) 12 ≤ cn (fun _ => 10) 12 := rm_mono (fun c hc => cn_le (fun _ _ => by split <;> omega))
                rw [rm_const] at hb
                omega
              omega
            have ho1 : Gt 1 (9 + 20 * r + 2) = 0 := by rw [hN1 _ (by omega)]; exact z1
            have hop := opn_leave (x := nI 1) r1 ho1 (by decide)
            have hbb := hC1.2.1
            have hfin : ∃ k' W2 P2 mo2 vx2, CurR G1 0 (cmN (Gt 1) r k k n W) n k' W2 P2 mo2 ow vx2 := by
              unfold cmN
              unfold cmV at hV
              by_cases h0 : Gt 1 (9 + 20 * r + 4) = 0
              · have ec : cdN (Gt 1) r k k W = (upd (Gt 1) (9 + 20 * r + 2) (nI 1), W) := by unfold cdN; rw [if_pos h0]
                rw [ec] at hV ⊢
                have hgl : Gl = Gr := by
                  unfold LNR at g2
                  rw [if_pos (by rw [(cu_rd hCr.1 r1).2.2.2.2.1]; exact h0)] at g2
                  exact g2
                subst hgl
                have hL0 := cur_leave (x := nI 1) hCr r1 (by decide)
                have g3' := ruR_P (P' := P) g3 (fun c hc => by unfold ppF; rw [(cu_rd hCr.1 r1).2.2.2.2.1, h0, if_neg (hw_0 (by omega))])
                obtain ⟨⟨P2, mo2, vx2, hC2⟩, -, -⟩ := cur_rm hL0 ⟨by omega, by omega⟩ (by omega) g3' hV
                exact ⟨k, _, P2, mo2, vx2, hC2⟩
              · obtain ⟨l1, l2, l3, l4, l5, l6, l7, l8⟩ := land_N hC1 r1 hk40 h0
                have hL0 := land_cur hCr r1 hk40 h0 g2
                have g3' := ruR_P (P' := PL (Gt 1 (9 + 20 * r + 4)) P) g3 (fun c hc => by unfold ppF PL; rw [(cu_rd hCr.1 r1).2.2.2.2.1])
                have hcw : cw (Gt 1 (9 + 20 * r + 4)) 12 ≤ 12 := cn_le (fun _ _ => by split <;> omega)
                have hopn : opn (cdN (Gt 1) r k k W).1 n = opn (upd (Gt 1) (9 + 20 * r + 2) (nI 1)) n := opn_cg (fun t ht => l5 _ (by omega) (by omega) (by omega) (by omega))
                obtain ⟨⟨P2, mo2, vx2, hC2⟩, -, -⟩ := cur_rm hL0 ⟨by omega, by omega⟩ (by omega) g3' hV
                exact ⟨k + 1, _, P2, mo2, vx2, hC2⟩
            obtain ⟨k', W2, P2, mo2, vx2, hC2⟩ := hfin
            refine ⟨?_, act_re2 (G1 := Gt) hS hH hC g1 (fun q q0 q1 q2 q4 q5 hq => (m1 q q1 q2).trans (hG1 q hq)) (fun f hf => by rw [m1 0 (by omega) (by omega), hG1 0 (by omega)]) (fun f hf => by rw [m2 f hf, hG1 1 (by omega)]) (fun f hf => by rw [m3 f hf, hG1 2 (by omega)]) (fun q q1 _ => rw1_o q1) ?_⟩
            · rw [(cu_sc hC2.1).1]
              exact (cu_ab hC2.1).2.1
            · rw [rw1_1]
              exact curE_f ⟨n, k', W2, P2, mo2, ow, vx2, hC2⟩ (fun o ho => m1 _ (by unfold sB; omega) (by unfold sB; omega)) (fun _ _ => rfl)
    · rw [if_neg z1] at hc
      obtain ⟨rfl, rfl⟩ := hc
      refine ref _ (fun _ _ => rfl) _ (fun w G2 hm => ?_)
      have hm := hm.1 r r1 r2
      try dsimp only at hm
      rw [if_neg z1] at hm
      exact ⟨hm.1, by rw [hm.2]; exact hR0⟩
  · refine ref _ (fun _ _ => rfl) _ (fun w G2 hm => ?_)
    have hm := hm.2 r1
    exact ⟨hm.1, by rw [hm.2]; exact hR0⟩
