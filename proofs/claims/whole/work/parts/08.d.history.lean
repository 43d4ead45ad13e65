/-! Contracts of the class and the reference, one behind the other: history, readers' numbers. -/
theorem lw_undo (l : Launch) {D : va_G} {τ : Nat → ClassId} {ad : Nat → Nat} (hI : kInj ad) {G : Nat → Nat → Int32} (hR : REL G) : kM l yX6_undo cX6_undo 1 (some .int) { frames := 4, cells := 0, slots := 0, locals := 104 } D τ ad [.ref (ad 7)] G (fun v G1 => kM l yX7_undo cX7_undo 1 (some .int) { frames := 1, cells := 0, slots := 0, locals := 22 } D τ ad [.ref (ad 0)] G1 (fun w G2 => w = v ∧ REL G2)) := by
  have hR0 := hR
  obtain ⟨hE, ⟨L, pi, hH⟩, hS, hT⟩ := hR
  have hH0 := hH
  obtain ⟨a1, a2, a3, a4, a5, a6⟩ := hH
  have hpi : ∀ t, t < 4 → G 9 t = nI (pi t) ∧ pi t < 7 := fun t ht => ⟨(a4 t ht).1, (a4 t ht).2.2⟩
  have hne : ∀ t, t < 4 → pi t ≠ 0 := fun t ht => by have := (a4 t ht).2.1; omega
  by_cases z : L = 0
  · refine kM_mono (c_X6_undo l hI (n := 0) (k := 0) a1 a3 hpi hne (fun q => by omega) (by omega) (fun q => by omega) (by omega) (fun q => by omega) (fun q => by omega)) (fun v G1 hc => ?_)
    rw [if_pos z] at hc
    obtain ⟨rfl, rfl⟩ := hc
    refine kM_mono (c_X7_undo l hI a2 a3) (fun w G2 hm => ?_)
    rw [if_pos z] at hm
    obtain ⟨rfl, rfl⟩ := hm
    exact ⟨rfl, hR0⟩
  · obtain ⟨n, k, W, P, mo, ow, vx, hC⟩ := a6 (L - 1) (by omega)
    have hj := (a4 (L - 1) (by omega)).2
    obtain ⟨s1, s2, s3, s4, s5, s6, s7, s8, s9, s10, s11, s12⟩ := cu_sc hC.1
    have hn4 := (cu_ab hC.1).2.2.2.1
    have hk := hC.2.1.1
    have e1 : nI 1 = (1 : Int32) := rfl
    refine kM_mono (c_X6_undo l hI (n := n) (k := k) a1 a3 hpi hne (fun _ => s4) hn4 (fun _ => s6) (by omega) (fun _ r hr => ?_) (fun _ => by rw [s9]; exact s10)) (fun v G1 hc => ?_)
    · obtain ⟨-, -, -, -, -, -, -, c8, c9, -⟩ := cu_rd hC.1 hr
      rw [c8]; exact c9
    rw [if_neg z] at hc
    obtain ⟨rfl, b1, b2, b3⟩ := hc
    have hlo : ∀ q, q < 14 → q ≠ 8 → G1 q = G q := fun q hq h8 => b2 q h8 (Or.inl (by unfold sB; omega))
    refine kM_mono (c_X7_undo l hI (L := L) (by rw [hlo 0 (by omega) (by omega)]; exact a2) a3) (fun w G2 hm => ?_)
    rw [if_neg z] at hm
    obtain ⟨rfl, rfl⟩ := hm
    have hC1 := cur_CB hC b3
    have ho : ∀ q, q ≠ 0 → q ≠ 1 → brF (gs G1 0 2 (nI (L - 1))) (L - 1) 1201 q = G1 q := fun q q0 q1 => by rw [brF_o q1, gs_other q0]
    have hhi : ∀ q, 175 ≤ q → brF (gs G1 0 2 (nI (L - 1))) (L - 1) 1201 q = G q := fun q hq => by rw [ho q (by omega) (by omega)]; exact b2 q (by omega) (Or.inr (by unfold sB; omega))
    have h2 : brF (gs G1 0 2 (nI (L - 1))) (L - 1) 1201 2 = G 2 := by rw [ho 2 (by omega) (by omega)]; exact hlo 2 (by omega) (by omega)
    refine ⟨rfl, ⟨n, k, W, P, mo, ow, vx, cur_N (cur_G hC1 (fun o ho2 => ho _ (by unfold sB; omega) (by unfold sB; omega))) (fun f hf => ?_)⟩, ⟨L - 1, pi, ?_, ?_, by omega, fun t ht => ?_, a5, fun t ht => ?_⟩, ?_, ?_⟩
    · unfold brF
      rw [if_pos ⟨rfl, hf⟩, gs_other (by omega), hlo 2 (by omega) (by omega)]
    · rw [ho 8 (by omega) (by omega)]; exact b1
    · rw [brF_o (by omega), gs_up, upd_eq]
    · rw [ho 9 (by omega) (by omega), hlo 9 (by omega) (by omega)]; exact a4 t ht
    · have := (a4 t (by omega)).2
      exact curE_f (a6 t (by omega)) (fun o ho => hhi _ (by unfold sB; omega)) (fun f hf => by rw [h2])
    · exact snp_f hS (fun q hq _ => hhi q (by omega)) (fun f _ hf => by rw [h2]) (by rw [ho 7 (by omega) (by omega), hlo 7 (by omega) (by omega)]) (by rw [brF_o (by omega), gs_row (by omega), hlo 0 (by omega) (by omega)])
    · obtain ⟨T, t1, t2, t3, t4⟩ := hT
      refine ⟨T, t1, by rw [ho 10 (by omega) (by omega), hlo 10 (by omega) (by omega)]; exact t2, by rw [brF_o (by omega), gs_row (by omega), hlo 0 (by omega) (by omega)]; exact t3, ?_⟩
      rw [ho 11 (by omega) (by omega), hlo 11 (by omega) (by omega), ho 3 (by omega) (by omega), hlo 3 (by omega) (by omega)]; exact t4
theorem lw_keep (l : Launch) {D : va_G} {τ : Nat → ClassId} {ad : Nat → Nat} (hI : kInj ad) {G : Nat → Nat → Int32} (hR : REL G) : kM l yX6_keep cX6_keep 1 (some .int) { frames := 3, cells := 0, slots := 0, locals := 83 } D τ ad [.ref (ad 7)] G (fun v G1 => kM l yX7_keep cX7_keep 1 (some .int) { frames := 1, cells := 0, slots := 0, locals := 22 } D τ ad [.ref (ad 0)] G1 (fun w G2 => w = v ∧ REL G2)) := by
  obtain ⟨⟨n, k, W, P, mo, ow, vx, hC⟩, ⟨L, pi, hH⟩, hS, hT⟩ := hR
  obtain ⟨p1, p2, p3, p4, ⟨p5, p6, p7, p8⟩, p9, p10, p11, ⟨p12, p13, p14⟩, p15, p16, p17, p18, p19⟩ := pre_of hC hH
  refine kM_mono (c_X6_keep l hI p5 p6 p7 p8 p9 p10) (fun v G1 hc => ?_)
  obtain ⟨rfl, Gc, c1, rfl⟩ := hc
  have hlo : ∀ q, q < 336 → Gc q = G q := fun q hq => c1.1 q (Or.inl (by unfold sB; omega))
  have hhi : ∀ q, 497 ≤ q → Gc q = G q := fun q hq => c1.1 q (Or.inr (by unfold sB; omega))
  refine kM_mono (c_X7_keep l hI) (fun w G2 hm => ?_)
  obtain ⟨rfl, rfl⟩ := hm
  obtain ⟨G3, e3⟩ : ∃ z, z = gs (kpF (gs Gc 7 5 (nI 1)) 4 1201) 0 3 (nI 1) := ⟨_, rfl⟩
  rw [← e3]
  have ho : ∀ q, q ≠ 0 → q ≠ 2 → q ≠ 7 → G3 q = Gc q := fun q q0 q2 q7 => by
    rw [e3, gs_other q0]
    funext f
    unfold kpF
    rw [if_neg (fun w => q2 w.1), gs_other q7]
  have h2 : ∀ f, f < 4804 → G3 2 f = G 2 f := fun f hf => by
    rw [e3, gs_other (by omega)]
    unfold kpF
    rw [if_neg (by omega), gs_other (by omega), hlo 2 (by omega)]
  have h24 : ∀ f, f < 1201 → G3 2 (4804 + f) = G 1 f := fun f hf => by
    rw [e3, gs_other (by omega)]
    unfold kpF
    rw [if_pos ⟨rfl, by omega, by omega⟩, gs_other (by omega), hlo 1 (by omega), show 4804 + f - 4 * 1201 = f by omega]
  have h0 : ∀ f, f ≠ 3 → G3 0 f = G 0 f := fun f hf => by
    rw [e3, gs_row hf]
    unfold kpF
    rw [if_neg (by omega), gs_other (by omega), hlo 0 (by omega)]
  have h03 : G3 0 3 = nI 1 := by rw [e3, gs_up, upd_eq]
  obtain ⟨a1, a2, a3, a4, a5, a6⟩ := hH
  refine ⟨?_, ?_, ⟨L, pi, ?_, ?_, a3, fun t ht => ?_, a5, fun t ht => ?_⟩, ⟨?_, Or.inr ?_⟩, ?_⟩
  · rw [gs_other (by omega), hlo 1 (by omega), p17, p19]
  · exact ⟨n, k, W, P, mo, ow, vx, cur_N (cur_G hC (fun o ho2 => by rw [ho _ (by unfold sB; omega) (by unfold sB; omega) (by unfold sB; omega), hlo _ (by unfold sB; omega)])) (fun f hf => by rw [ho 1 (by omega) (by omega) (by omega), hlo 1 (by omega)])⟩
  · rw [ho 8 (by omega) (by omega) (by omega), hlo 8 (by omega)]; exact a1
  · rw [h0 2 (by omega)]; exact a2
  · rw [ho 9 (by omega) (by omega) (by omega), hlo 9 (by omega)]; exact a4 t ht
  · have := (a4 t (by omega)).2
    exact curE_f (a6 t ht) (fun o ho2 => by rw [ho _ (by unfold sB; omega) (by unfold sB; omega) (by unfold sB; omega), hhi _ (by unfold sB; omega)]) (fun f hf => h2 _ (by omega))
  · rw [h03, e3, gs_other (by omega)]
    unfold kpF
    rw [if_neg (by omega), gs_up, upd_eq]
  · have hcb := cur_CB hC (CPY_cb c1)
    exact ⟨n, k, W, P, mo, ow, vx, cur_N (cur_G hcb (fun o ho2 => ho _ (by unfold sB; omega) (by unfold sB; omega) (by unfold sB; omega))) (fun f hf => h24 f hf)⟩
  · obtain ⟨T, t1, t2, t3, t4⟩ := hT
    exact ⟨T, t1, by rw [ho 10 (by omega) (by omega) (by omega), hlo 10 (by omega)]; exact t2, by rw [h0 5 (by omega)]; exact t3, by rw [ho 11 (by omega) (by omega) (by omega), hlo 11 (by omega), ho 3 (by omega) (by omega) (by omega), hlo 3 (by omega)]; exact t4⟩
theorem lw_restore (l : Launch) {D : va_G} {τ : Nat → ClassId} {ad : Nat → Nat} (hI : kInj ad) {G : Nat → Nat → Int32} (hR : REL G) : kM l yX6_restore cX6_restore 1 (some .int) { frames := 4, cells := 0, slots := 0, locals := 104 } D τ ad [.ref (ad 7)] G (fun v G1 => kM l yX7_restore cX7_restore 1 (some .int) { frames := 2, cells := 0, slots := 0, locals := 43 } D τ ad [.ref (ad 0)] G1 (fun w G2 => w = v ∧ REL G2)) := by
  have hR0 := hR
  obtain ⟨⟨n, k, W, P, mo, ow, vx, hC⟩, ⟨L, pi, hH⟩, hS, hT⟩ := hR
  obtain ⟨p1, p2, p3, p4, ⟨p5, p6, p7, p8⟩, p9, p10, p11, ⟨p12, p13, p14⟩, p15, p16, p17, p18, p19⟩ := pre_of hC hH
  have hne2 : ∀ t, t < 4 → pi t ≠ 2 := fun t ht => by have := (hH.2.2.2.1 t ht).2.1; omega
  have hS0 := hS
  obtain ⟨b1, b2⟩ := hS
  rcases b2 with ⟨z1, z2, z3, z4⟩ | ⟨n2, k2, W2, P2, mo2, ow2, vx2, hC2⟩
  · refine kM_mono (c_X6_restore l hI (n2 := 0) (k2 := 0) p1 p2 p3 p4 p5 p6 p7 p8 p9 p10 hne2 z2 (by omega) z3 (by omega) (fun r hr => by omega) (Or.inl z4)) (fun v G1 hc => ?_)
    rw [if_pos (b1.trans z1)] at hc
    obtain ⟨rfl, rfl⟩ := hc
    refine kM_mono (c_X7_restore l hI p18 p2) (fun w G2 hm => ?_)
    rw [if_pos z1] at hm
    obtain ⟨rfl, rfl⟩ := hm
    exact ⟨rfl, hR0⟩
  · obtain ⟨s1, s2, s3, s4, s5, s6, s7, s8, s9, s10, s11, s12⟩ := cu_sc hC2.1
    have hn24 := (cu_ab hC2.1).2.2.2.1
    have hk2 := hC2.2.1.1
    have e1 : nI 1 = (1 : Int32) := rfl
    refine kM_mono (c_X6_restore l hI (n2 := n2) (k2 := k2) p1 p2 p3 p4 p5 p6 p7 p8 p9 p10 hne2 s4 hn24 s6 (by omega) (fun r hr => ?_) (by rw [s9]; exact s10)) (fun v G1 hc => ?_)
    · obtain ⟨-, -, -, -, -, -, -, c8, c9, -⟩ := cu_rd hC2.1 hr
      rw [c8]; exact c9
    by_cases z : G 7 5 = 0
    · rw [if_pos z] at hc
      obtain ⟨rfl, rfl⟩ := hc
      refine kM_mono (c_X7_restore l hI p18 p2) (fun w G2 hm => ?_)
      rw [if_pos (by rw [← b1]; exact z)] at hm
      obtain ⟨rfl, rfl⟩ := hm
      exact ⟨rfl, hR0⟩
    · rw [if_neg z] at hc
      obtain ⟨Gr, r1, r2, rfl⟩ := hc
      have hGr : ∀ q, q < 14 → q ≠ 8 → q ≠ 9 → Gr q = G q := fun q hq h8 h9 => rcR_0 r1 p2 p4 q h8 h9 (by omega)
      have hG1 : ∀ q, q < 14 ∨ 175 ≤ q → G1 q = Gr q := fun q hq => r2.1 q (by unfold sB; omega)
      have h1 : ∀ q, q < 8 → G1 q = G q := fun q hq => (hG1 q (Or.inl (by omega))).trans (hGr q (by omega) (by omega) (by omega))
      refine kM_mono (c_X7_restore l hI (L := L) (by rw [h1 0 (by omega)]; exact p18) p2) (fun w G2 hm => ?_)
      rw [if_neg (by rw [h1 0 (by omega), ← b1]; exact z)] at hm
      obtain ⟨rfl, rfl⟩ := hm
      have hnum : ∀ f, f < 1201 → brF (recM G1 L) 4 1201 1 f = G 2 (4 * 1201 + f) := fun f hf => by
        unfold brF
        rw [if_pos ⟨rfl, hf⟩, recM_24 p2 (by omega), h1 2 (by omega)]
      have hC3 : CurR Gr 2 (fun f => G 2 (4 * 1201 + f)) n2 k2 W2 P2 mo2 ow2 vx2 := cur_G hC2 (fun o ho => rcR_j r1 p2 hne2 _ (by unfold sB; omega) (by unfold sB; omega))
      refine ⟨?_, act_rel ⟨hS0, hT⟩ hH hC r1 hG1 (fun q q1 _ => brF_o q1) ⟨n2, k2, W2, P2, mo2, ow2, vx2, cur_N (cur_CB hC3 (CPY_cb r2)) hnum⟩⟩
      rw [hnum 0 (by omega), s1]
      exact (cu_ab hC2.1).2.1
/-- one number of a reader changes, on both sides -/
theorem RRR_1 {row wr N : Nat → Int32} {r a b : Nat} {x : Int32} (h : RRR row wr N r) (hab : (a = 3 ∧ b = 1) ∨ (a = 4 ∧ b = 3) ∨ (a = 8 ∧ b = 6 ∧ (x = 0 ∨ x = nI 1)) ∨ (a = 6 ∧ b = 5 ∧ ∃ t, t ≤ 20 ∧ x = nI t)) : RRR (upd row a x) wr (upd N (9 + 20 * r + b) x) r := by
  obtain ⟨c1, c2, c3, c4, c5, c6, c7, c8, c9, c10, c11, c12⟩ := h
  have hu : ∀ f, f ≠ b → upd N (9 + 20 * r + b) x (9 + 20 * r + f) = N (9 + 20 * r + f) := fun f hf => upd_ne (by omega)
  have hr : ∀ f, f ≠ a → upd row a x f = row f := fun f hf => upd_ne hf
  rcases hab with ⟨rfl, rfl⟩ | ⟨rfl, rfl⟩ | ⟨rfl, rfl, hx⟩ | ⟨rfl, rfl, hx⟩
  · exact ⟨by rw [hr 1 (by omega), hu 2 (by omega)]; exact c1, by rw [hr 2 (by omega), hu 0 (by omega)]; exact c2, by rw [upd_eq, upd_eq], by rw [hr 4 (by omega), hu 3 (by omega)]; exact c4, by rw [hr 5 (by omega), hu 4 (by omega)]; exact c5, by rw [hr 6 (by omega), hu 5 (by omega)]; exact c6, by rw [hr 7 (by omega), hu 7 (by omega)]; exact c7, by rw [hr 8 (by omega), hu 6 (by omega)]; exact c8, by rw [hu 6 (by omega)]; exact c9, by rw [hu 4 (by omega)]; exact c10, by rw [hu 5 (by omega)]; exact c11, fun c hc hh => by rw [hu 4 (by omega)] at hh; rw [hu (8 + c) (by omega)]; exact c12 c hc hh⟩
  · exact ⟨by rw [hr 1 (by omega), hu 2 (by omega)]; exact c1, by rw [hr 2 (by omega), hu 0 (by omega)]; exact c2, by rw [hr 3 (by omega), hu 1 (by omega)]; exact c3, by rw [upd_eq, upd_eq], by rw [hr 5 (by omega), hu 4 (by omega)]; exact c5, by rw [hr 6 (by omega), hu 5 (by omega)]; exact c6, by rw [hr 7 (by omega), hu 7 (by omega)]; exact c7, by rw [hr 8 (by omega), hu 6 (by omega)]; exact c8, by rw [hu 6 (by omega)]; exact c9, by rw [hu 4 (by omega)]; exact c10, by rw [hu 5 (by omega)]; exact c11, fun c hc hh => by rw [hu 4 (by omega)] at hh; rw [hu (8 + c) (by omega)]; exact c12 c hc hh⟩
  · exact ⟨by rw [hr 1 (by omega), hu 2 (by omega)]; exact c1, by rw [hr 2 (by omega), hu 0 (by omega)]; exact c2, by rw [hr 3 (by omega), hu 1 (by omega)]; exact c3, by rw [hr 4 (by omega), hu 3 (by omega)]; exact c4, by rw [hr 5 (by omega), hu 4 (by omega)]; exact c5, by rw [hr 6 (by omega), hu 5 (by omega)]; exact c6, by rw [hr 7 (by omega), hu 7 (by omega)]; exact c7, by rw [upd_eq, upd_eq], by rw [upd_eq]; exact hx, by rw [hu 4 (by omega)]; exact c10, by rw [hu 5 (by omega)]; exact c11, fun c hc hh => by rw [hu 4 (by omega)] at hh; rw [hu (8 + c) (by omega)]; exact c12 c hc hh⟩
  · exact ⟨by rw [hr 1 (by omega), hu 2 (by omega)]; exact c1, by rw [hr 2 (by omega), hu 0 (by omega)]; exact c2, by rw [hr 3 (by omega), hu 1 (by omega)]; exact c3, by rw [hr 4 (by omega), hu 3 (by omega)]; exact c4, by rw [hr 5 (by omega), hu 4 (by omega)]; exact c5, by rw [upd_eq, upd_eq], by rw [hr 7 (by omega), hu 7 (by omega)]; exact c7, by rw [hr 8 (by omega), hu 6 (by omega)]; exact c8, by rw [hu 6 (by omega)]; exact c9, by rw [hu 4 (by omega)]; exact c10, by rw [upd_eq]; exact hx, fun c hc hh => by rw [hu 4 (by omega)] at hh; rw [hu (8 + c) (by omega)]; exact c12 c hc hh⟩
/-- a write, on both sides -/
theorem RRR_w {row wr N : Nat → Int32} {r c : Nat} {z : Int32} (h : RRR row wr N r) (hc : c < 12) : RRR (upd row 5 (row 5 ||| bt c)) (upd wr c z) (upd (upd N (9 + 20 * r + 4) (N (9 + 20 * r + 4) ||| bt c)) (9 + 20 * r + (8 + c)) z) r := by
  obtain ⟨c1, c2, c3, c4, c5, c6, c7, c8, c9, c10, c11, c12⟩ := h
  have hu : ∀ f, f ≠ 4 → f ≠ 8 + c → upd (upd N (9 + 20 * r + 4) (N (9 + 20 * r + 4) ||| bt c)) (9 + 20 * r + (8 + c)) z (9 + 20 * r + f) = N (9 + 20 * r + f) := fun f hf hf2 => by rw [upd_ne (by omega), upd_ne (by omega)]
  have h4 : upd (upd N (9 + 20 * r + 4) (N (9 + 20 * r + 4) ||| bt c)) (9 + 20 * r + (8 + c)) z (9 + 20 * r + 4) = N (9 + 20 * r + 4) ||| bt c := by rw [upd_ne (by omega), upd_eq]
  have hr : ∀ f, f ≠ 5 → upd row 5 (row 5 ||| bt c) f = row f := fun f hf => upd_ne hf
  refine ⟨by rw [hr 1 (by omega), hu 2 (by omega) (by omega)]; exact c1, by rw [hr 2 (by omega), hu 0 (by omega) (by omega)]; exact c2, by rw [hr 3 (by omega), hu 1 (by omega) (by omega)]; exact c3, by rw [hr 4 (by omega), hu 3 (by omega) (by omega)]; exact c4, by rw [upd_eq, h4, c5], by rw [hr 6 (by omega), hu 5 (by omega) (by omega)]; exact c6, by rw [hr 7 (by omega), hu 7 (by omega) (by omega)]; exact c7, by rw [hr 8 (by omega), hu 6 (by omega) (by omega)]; exact c8, by rw [hu 6 (by omega) (by omega)]; exact c9, by rw [h4]; exact sml_or (by omega) c10 (sml_bt hc (by omega)), by rw [hu 5 (by omega) (by omega)]; exact c11, fun d hd hh => ?_⟩
  rw [h4] at hh
  by_cases e : d = c
  · subst e; rw [upd_eq, upd_eq]
  · rw [upd_ne e, hu (8 + d) (by omega) (by omega)]
    rcases (hb_or _ _ d (by omega)).mp hh with q | q
    · exact c12 d hd q
    · exact absurd ((hb_bt c d (by omega) (by omega)).mp q).symm e
