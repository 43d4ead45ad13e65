/-! commit, told of the state's numbers. -/
theorem ruR_P {G G' : Nat → Nat → Int32} {j n : Nat} {P P' : Nat → Nat} {v : Int32} (h : ruR G G' j n P v) (hP : ∀ c, c < 12 → P' c = P c) : ruR G G' j n P' v := by
  obtain ⟨v1, v2, v3, v4, v5⟩ := h
  have hs : ∀ c, c < 12 → snF G j n P' c = snF G j n P c := fun c hc => by unfold snF; rw [hP c hc]
  refine ⟨?_, fun c hc => by rw [hs c hc, hP c hc]; exact v2 c hc, v3, v4, v5⟩
  rw [v1]
  congr 1
  exact cn_congr (fun c hc => by rw [hs c hc, hP c hc])
def comS (N : Nat → Int32) (x : Int32) : Int32 × Option (Nat → Int32) := rdS (nZ (N 2)) x (fun r => if N (9 + 20 * r + 2) = 0 then (if cn (cfM N (nZ (N 8)) r) 12 ≠ 0 then (-6, none) else if ¬ N 7 = 0 ∧ ¬ nI (cn (ssM N r) (nZ (N 6))) ≤ 0 then (-4, none) else if 52 < cmV N r (nZ (N 6)) (nZ (N 6)) (nZ (N 2)) (nZ (N 8)) then (-3, none) else (cmN N r (nZ (N 6)) (nZ (N 6)) (nZ (N 2)) (nZ (N 8)) 0, some (cmN N r (nZ (N 6)) (nZ (N 6)) (nZ (N 2)) (nZ (N 8))))) else (-4, none)) (-1, none)
theorem ln_commit (l : Launch) {D : va_G} {τ : Nat → ClassId} {ad : Nat → Nat} (hI : kInj ad) {G : Nat → Nat → Int32} {N : Nat → Int32} {L : Nat} {Hs : Nat → Nat → Int32} {x : Int32} (hR : RLN G N L Hs) : kM l yX6_commit cX6_commit 3 (some .int) { frames := 4, cells := 0, slots := 0, locals := 106 } D τ ad [.ref (ad 7), .int x] G (fun v G1 => PSTn G N L Hs (comS N x) v G1) := by
  obtain ⟨⟨n, k, W, P, mo, ow, vx, hC⟩, pi, hH⟩ := hR
  obtain ⟨p1, p2, p3, p4, ⟨p5, p6, p7, p8⟩, p9, p10, p11, ⟨p12, p13, p14⟩, p15, p16, p17, p19⟩ := pre_n hC hH
  have n2 := nZ_of p15 (by omega)
  have n6 := nZ_of p16 (by omega)
  have n8 := nZ_of p12 (by omega)
  have hkk : ∀ r, r < n → N (9 + 20 * r + 2) = 0 → k < 40 := fun r hr ho => by
    have : opn N n ≠ 0 := cn_pos hr (by rw [if_pos ho]; omega)
    have := hC.2.1.1
    omega
  refine kM_mono (c_X6_commit l hI p1 p2 p3 p4 p5 p6 p7 p8 p9 p10 p11 p19 (fun r hr ho => hkk r hr (by rw [← (cu_rd hC.1 hr).1]; exact ho))) (fun v G1 hc => ?_)
  rcases rdP_yn hc with ⟨r, r1, r2, hc⟩ | ⟨r1, rfl, rfl⟩
  · obtain ⟨c1, c2, c3, c4, c5, c6, c7, c8, c9, c10, c11, c12⟩ := cu_rd hC.1 r1
    obtain ⟨s1, s2, s3, s4, s5, s6, s7, s8, s9, s10, s11, s12⟩ := cu_sc hC.1
    try dsimp only at hc
    rw [c1, ← cu_conf hC.1 r1, ← cu_skew hC.1 p8 r1, s9] at hc
    have es : comS N x = if N (9 + 20 * r + 2) = 0 then (if cn (cfM N W r) 12 ≠ 0 then (-6, none) else if ¬ N 7 = 0 ∧ ¬ nI (cn (ssM N r) k) ≤ 0 then (-4, none) else if 52 < cmV N r k k n W then (-3, none) else (cmN N r k k n W 0, some (cmN N r k k n W))) else (-4, none) := by unfold comS; rw [n2, n6, n8, rdS_h r1 p6 r2]
    by_cases z1 : N (9 + 20 * r + 2) = 0
    · rw [if_pos z1] at hc es
      have hk40 := hkk r r1 z1
      by_cases z2 : cn (cfM N W r) 12 ≠ 0
      · rw [if_pos z2] at hc es
        obtain ⟨rfl, rfl⟩ := hc
        exact pn_e es
      · rw [if_neg z2] at hc es
        by_cases z3 : ¬ N 7 = 0 ∧ ¬ nI (cn (ssM N r) k) ≤ 0
        · rw [if_pos z3] at hc es
          obtain ⟨rfl, rfl⟩ := hc
          exact pn_e es
        · rw [if_neg z3] at hc es
          obtain ⟨fe1, fe2⟩ := full_eq hC r1 hk40
          have hle : cn (fun c => bcn (xcF G n r P (N (9 + 20 * r + 4)) c) 10) 12 ≤ 120 := by
            have hb : cn (fun c => bcn (xcF G n r P (N (9 + 20 * r + 4)) c) 10) 12 ≤ cn (fun _ => 10) 12 := rm_mono (fun c hc => cn_le (fun _ _ => by split <;> omega))
            rw [rm_const] at hb
            omega
          have hfull : nI 40 < sm (ovF G 0 n r P) 12 ↔ 52 < cmV N r k k n W := by
            rw [fe2, nI_ltI (by omega) (by omega), fe1]
            omega
          by_cases z4 : nI 40 < sm (ovF G 0 n r P) 12
          · rw [if_pos z4] at hc
            rw [if_pos (hfull.mp z4)] at es
            obtain ⟨rfl, rfl⟩ := hc
            exact pn_e es
          · rw [if_neg z4] at hc
            rw [if_neg (fun w => z4 (hfull.mpr w))] at es
            obtain ⟨Gr, Gl, u, g1, g2, g3, rfl⟩ := hc
            have hGl := LNR_f hk40 (by omega) g2
            have hG1 : ∀ q, q < 14 ∨ 175 ≤ q → G1 q = Gr q := fun q hq => by
              rw [g3.2.2.2.2 q (by unfold sB; omega) (fun c hc => ⟨by unfold cB; omega, by unfold cV; omega, by unfold cM; omega⟩), gs_other (by unfold rN; omega)]
              exact hGl q hq
            have hCr : CurR Gr 0 N n k W P mo ow vx := cur_r hC g1 p2 p4
            have hV : cmV N r k k n W ≤ 52 := Nat.le_of_not_lt (fun w => z4 (hfull.mpr w))
            have hop := opn_leave (x := nI 1) r1 z1 (by decide)
            have hbb := hC.2.1
            have hfin : ∃ k' W2 P2 mo2 vx2, CurR G1 0 (cmN N r k k n W) n k' W2 P2 mo2 ow vx2 := by
              unfold cmN
              unfold cmV at hV
              by_cases h0 : N (9 + 20 * r + 4) = 0
              · have ec : cdN N r k k W = (upd N (9 + 20 * r + 2) (nI 1), W) := by unfold cdN; rw [if_pos h0]
                rw [ec] at hV ⊢
                have hgl : Gl = Gr := by
                  unfold LNR at g2
                  rw [if_pos (by rw [(cu_rd hCr.1 r1).2.2.2.2.1]; exact h0)] at g2
                  exact g2
                subst hgl
                have hL0 := cur_leave (x := nI 1) hCr r1 (by decide)
                have g3' := ruR_P (P' := P) g3 (fun c hc => by unfold ppF; rw [(cu_rd hCr.1 r1).2.2.2.2.1, h0, if_neg (hw_0 (by omega))])
                obtain ⟨⟨P2, mo2, vx2, hC2⟩, -, -⟩ := cur_rm hL0 ⟨by omega, by omega⟩ (by omega) g3' hV
                exact ⟨k, _, P2, mo2, vx2, hC2⟩
              · obtain ⟨l1, l2, l3, l4, l5, l6, l7, l8⟩ := land_N hC r1 hk40 h0
                have hL0 := land_cur hCr r1 hk40 h0 g2
                have g3' := ruR_P (P' := PL (N (9 + 20 * r + 4)) P) g3 (fun c hc => by unfold ppF PL; rw [(cu_rd hCr.1 r1).2.2.2.2.1])
                have hcw : cw (N (9 + 20 * r + 4)) 12 ≤ 12 := cn_le (fun _ _ => by split <;> omega)
                have hopn : opn (cdN N r k k W).1 n = opn (upd N (9 + 20 * r + 2) (nI 1)) n := opn_cg (fun t ht => l5 _ (by omega) (by omega) (by omega) (by omega))
                obtain ⟨⟨P2, mo2, vx2, hC2⟩, -, -⟩ := cur_rm hL0 ⟨by omega, by omega⟩ (by omega) g3' hV
                exact ⟨k + 1, _, P2, mo2, vx2, hC2⟩
            obtain ⟨k', W2, P2, mo2, vx2, hC2⟩ := hfin
            refine pn_a ?_ (act_n hH hC g1 hG1 ⟨n, k', W2, P2, mo2, ow, vx2, hC2⟩)
            rw [es, (cu_sc hC2.1).1, (cu_ab hC2.1).2.1]
    · rw [if_neg z1] at hc es
      obtain ⟨rfl, rfl⟩ := hc
      exact pn_e es
  · exact pn_e (by unfold comS; rw [n2, rdS_m p6 r1])
