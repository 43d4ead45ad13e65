/-! Contracts of the class and the reference, one behind the other: acts. -/
set_option maxHeartbeats 1000000 in
theorem lw_pay (l : Launch) {D : va_G} {τ : Nat → ClassId} {ad : Nat → Nat} (hI : kInj ad) {G : Nat → Nat → Int32} (hR : REL G) {x y : Int32} : kM l yX6_pay cX6_pay 4 (some .int) { frames := 4, cells := 0, slots := 0, locals := 104 } D τ ad [.ref (ad 7), .int x, .int y] G (fun v G1 => kM l yX7_pay cX7_pay 4 (some .int) { frames := 2, cells := 0, slots := 0, locals := 43 } D τ ad [.ref (ad 0), .int x, .int y] G1 (fun w G2 => w = v ∧ REL G2)) := by
  have hR0 := hR
  obtain ⟨⟨n, k, W, P, mo, ow, vx, hC⟩, ⟨L, pi, hH⟩, hS⟩ := hR
  obtain ⟨p1, p2, p3, p4, ⟨p5, p6, p7, p8⟩, p9, p10, p11, ⟨p12, p13, p14⟩, p15, p16, p17, p18, p19⟩ := pre_of hC hH
  refine kM_mono (c_X6_pay l hI p1 p2 p3 p4 p5 p6 p7 p8 p9 p10) (fun v G1 hc => ?_)
  have ref := fun (G1 : Nat → Nat → Int32) (h : ∀ q, q < 7 → G1 q = G q) (R' : Int32 → (Nat → Nat → Int32) → Prop) hh => kM_mono (D := D) (τ := τ) (R' := R') (c_X7_pay l hI (G := G1) (x := x) (y := y) (n := n) (L := L) (by rw [h 1 (by omega)]; exact p15) p6 (by rw [h 0 (by omega)]; exact p18) p2) hh
  rcases rdP_yn hc with ⟨r, r1, r2, hc⟩ | ⟨r1, rfl, rfl⟩
  · obtain ⟨c1, c2, c3, -⟩ := cu_rd hC.1 r1
    try dsimp only at hc
    rw [c1, c3] at hc
    by_cases z1 : nI 1 ≤ y ∧ y ≤ nI 9999
    · rw [if_pos z1] at hc
      by_cases z2 : G 1 (9 + 20 * r + 2) = 0
      · rw [if_pos z2] at hc
        by_cases z3 : nI 9999 < G 1 (9 + 20 * r + 1) + y
        · rw [if_pos z3] at hc
          obtain ⟨rfl, rfl⟩ := hc
          refine ref _ (fun _ _ => rfl) _ (fun w G2 hm => ?_)
          have hm := hm.1 r r1 r2
          try dsimp only at hm
          rw [if_pos z1, if_pos z2, if_pos z3] at hm
          exact ⟨hm.1, by rw [hm.2]; exact hR0⟩
        · rw [if_neg z3] at hc
          obtain ⟨rfl, Gr, g1, rfl⟩ := hc
          have e0 := rcR_0 g1 p2 p4
          have hfr : ∀ q, q < 7 → (gs Gr (rN 0 r) 3 (G 1 (9 + 20 * r + 1) + y)) q = G q := fun q hq => by rw [gs_other (by unfold rN; omega)]; exact e0 q (by omega) (by omega) (by omega)
          refine ref _ hfr _ (fun w G2 hm => ?_)
          have hm := hm.1 r r1 r2
          try dsimp only at hm
          rw [hfr 1 (by omega), if_pos z1, if_pos z2, if_neg z3] at hm
          obtain ⟨rfl, rfl⟩ := hm
          refine ⟨rfl, act_rel hS hH hC g1 (fun q hq => gs_other (by unfold rN; omega)) (fun q q1 _ => gs_other q1) ⟨n, k, W, P, mo, ow, vx, ?_⟩⟩
          have hCr := cur_r hC g1 p2 p4
          have e1 : gs (recM (gs Gr (rN 0 r) 3 (G 1 (9 + 20 * r + 1) + y)) L) 1 (9 + 20 * r + 1) (G 1 (9 + 20 * r + 1) + y) 1 = upd (G 1) (9 + 20 * r + 1) (G 1 (9 + 20 * r + 1) + y) := by rw [gs_up, recM_1, hfr 1 (by omega)]
          rw [e1]
          refine cur_rd (r := r) hCr r1 (fun q q1 q2 => gs_other q1) (fun f hf => upd_ne (by omega)) (upd_ne (by omega)) (upd_ne (by omega)) (upd_ne (by omega)) ?_
          rw [gs_up, gs_other (show rW 0 r ≠ rN 0 r by unfold rW rN; omega)]
          exact RRR_1 (cu_rd hCr.1 r1) (Or.inl ⟨rfl, rfl⟩)
      · rw [if_neg z2] at hc
        obtain ⟨rfl, rfl⟩ := hc
        refine ref _ (fun _ _ => rfl) _ (fun w G2 hm => ?_)
        have hm := hm.1 r r1 r2
        try dsimp only at hm
        rw [if_pos z1, if_neg z2] at hm
        exact ⟨hm.1, by rw [hm.2]; exact hR0⟩
    · rw [if_neg z1] at hc
      obtain ⟨rfl, rfl⟩ := hc
      refine ref _ (fun _ _ => rfl) _ (fun w G2 hm => ?_)
      have hm := hm.1 r r1 r2
      try dsimp only at hm
      rw [if_neg z1] at hm
      exact ⟨hm.1, by rw [hm.2]; exact hR0⟩
  · refine ref _ (fun _ _ => rfl) _ (fun w G2 hm => ?_)
    have hm := hm.2 r1
    exact ⟨hm.1, by rw [hm.2]; exact hR0⟩

set_option maxHeartbeats 1000000 in
theorem lw_setRent (l : Launch) {D : va_G} {τ : Nat → ClassId} {ad : Nat → Nat} (hI : kInj ad) {G : Nat → Nat → Int32} (hR : REL G) {y : Int32} : kM l yX6_setRent cX6_setRent 3 (some .int) { frames := 4, cells := 0, slots := 0, locals := 104 } D τ ad [.ref (ad 7), .int y] G (fun v G1 => kM l yX7_setRent cX7_setRent 3 (some .int) { frames := 2, cells := 0, slots := 0, locals := 43 } D τ ad [.ref (ad 0), .int y] G1 (fun w G2 => w = v ∧ REL G2)) := by
  have hR0 := hR
  obtain ⟨⟨n, k, W, P, mo, ow, vx, hC⟩, ⟨L, pi, hH⟩, hS⟩ := hR
  obtain ⟨p1, p2, p3, p4, ⟨p5, p6, p7, p8⟩, p9, p10, p11, ⟨p12, p13, p14⟩, p15, p16, p17, p18, p19⟩ := pre_of hC hH
  refine kM_mono (c_X6_setRent l hI p1 p2 p3 p4 p5 p6 p7 p8 p9 p10) (fun v G1 hc => ?_)
  have ref := fun (G1 : Nat → Nat → Int32) (h : ∀ q, q < 7 → G1 q = G q) (R' : Int32 → (Nat → Nat → Int32) → Prop) hh => kM_mono (D := D) (τ := τ) (R' := R') (c_X7_setRent l hI (G := G1) (y := y) (L := L) (by rw [h 0 (by omega)]; exact p18) p2) hh
  obtain ⟨s1, s2, s3, s4, s5, s6, s7, s8, s9, s10, s11, s12⟩ := cu_sc hC.1
  rw [s3] at hc
  by_cases z1 : nI 0 ≤ y ∧ y ≤ nI 99
  · rw [if_pos z1] at hc
    by_cases z2 : y = G 1 4
    · rw [if_pos z2] at hc
      obtain ⟨rfl, rfl⟩ := hc
      refine ref _ (fun _ _ => rfl) _ (fun w G2 hm => ?_)
      rw [if_pos z1, if_pos z2.symm] at hm
      exact ⟨hm.1, by rw [hm.2]; exact hR0⟩
    · rw [if_neg z2] at hc
      obtain ⟨rfl, Gr, g1, rfl⟩ := hc
      have e0 := rcR_0 g1 p2 p4
      have hfr : ∀ q, q < 7 → gs Gr (sB 0) 5 y q = G q := fun q hq => by rw [gs_other (by unfold sB; omega)]; exact e0 q (by omega) (by omega) (by omega)
      refine ref _ hfr _ (fun w G2 hm => ?_)
      rw [hfr 1 (by omega), if_pos z1, if_neg (fun z => z2 z.symm)] at hm
      obtain ⟨rfl, rfl⟩ := hm
      refine ⟨rfl, act_rel hS hH hC g1 (fun q hq => gs_other (by unfold sB; omega)) (fun q q1 _ => gs_other q1) ⟨n, k, W, P, mo, ow, vx, ?_⟩⟩
      have hCr := cur_r hC g1 p2 p4
      rw [gs_up, recM_1, hfr 1 (by omega)]
      exact cur_s hCr (Or.inl ⟨rfl, rfl⟩)
  · rw [if_neg z1] at hc
    obtain ⟨rfl, rfl⟩ := hc
    refine ref _ (fun _ _ => rfl) _ (fun w G2 hm => ?_)
    rw [if_neg z1] at hm
    exact ⟨hm.1, by rw [hm.2]; exact hR0⟩

set_option maxHeartbeats 1000000 in
theorem lw_forbidSkew (l : Launch) {D : va_G} {τ : Nat → ClassId} {ad : Nat → Nat} (hI : kInj ad) {G : Nat → Nat → Int32} (hR : REL G) {b : Nat} (hb1 : b ≤ 1) : kM l yX6_forbidSkew cX6_forbidSkew 2 (some .int) { frames := 4, cells := 0, slots := 0, locals := 104 } D τ ad [.ref (ad 7), .int (nI b)] G (fun v G1 => kM l yX7_forbidSkew cX7_forbidSkew 3 (some .int) { frames := 3, cells := 0, slots := 0, locals := 69 } D τ ad [.ref (ad 0), .int (nI b)] G1 (fun w G2 => w = v ∧ REL G2)) := by
  have hR0 := hR
  obtain ⟨⟨n, k, W, P, mo, ow, vx, hC⟩, ⟨L, pi, hH⟩, hS⟩ := hR
  obtain ⟨p1, p2, p3, p4, ⟨p5, p6, p7, p8⟩, p9, p10, p11, ⟨p12, p13, p14⟩, p15, p16, p17, p18, p19⟩ := pre_of hC hH
  refine kM_mono (c_X6_forbidSkew l hI p1 p2 p3 p4 p5 p6 p7 p8 p9 p10 hb1) (fun v G1 hc => ?_)
  have ref := fun (G1 : Nat → Nat → Int32) (h : ∀ q, q < 7 → G1 q = G q) (R' : Int32 → (Nat → Nat → Int32) → Prop) hh => kM_mono (D := D) (τ := τ) (R' := R') (c_X7_forbidSkew l hI (G := G1) (b := b) (k := k) (L := L) (by rw [h 1 (by omega)]; exact p16) p8 (by rw [h 0 (by omega)]; exact p18) p2 hb1) hh
  obtain ⟨s1, s2, s3, s4, s5, s6, s7, s8, s9, s10, s11, s12⟩ := cu_sc hC.1
  rw [s9] at hc
  by_cases z2 : nI b = G 1 7
  · rw [if_pos z2] at hc
    obtain ⟨rfl, rfl⟩ := hc
    refine ref _ (fun _ _ => rfl) _ (fun w G2 hm => ?_)
    rw [if_pos z2.symm] at hm
    exact ⟨hm.1, by rw [hm.2]; exact hR0⟩
  · rw [if_neg z2] at hc
    obtain ⟨Gr, g1, rfl, rfl⟩ := hc
    have e0 := rcR_0 g1 p2 p4
    have hfr : ∀ q, q < 7 → gs Gr (sB 0) 9 (nI b) q = G q := fun q hq => by rw [gs_other (by unfold sB; omega)]; exact e0 q (by omega) (by omega) (by omega)
    refine ref _ hfr _ (fun w G2 hm => ?_)
    rw [hfr 1 (by omega), if_neg (fun z => z2 z.symm)] at hm
    obtain ⟨rfl, rfl⟩ := hm
    have hCr := cur_r hC g1 p2 p4
    have hx : nI b = 0 ∨ nI b = nI 1 := by rcases (show b = 0 ∨ b = 1 by omega) with rfl | rfl; exact Or.inl rfl; exact Or.inr rfl
    have hC2 : CurR (gs Gr (sB 0) 9 (nI b)) 0 (upd (G 1) 7 (nI b)) n k W P mo ow vx := cur_s hCr (Or.inr (Or.inl ⟨rfl, rfl, hx⟩))
    refine ⟨(cu_pairs hC2.1).symm, act_rel hS hH hC g1 (fun q hq => gs_other (by unfold sB; omega)) (fun q q1 _ => gs_other q1) ⟨n, k, W, P, mo, ow, vx, ?_⟩⟩
    rw [gs_up, recM_1, hfr 1 (by omega)]
    exact hC2

theorem upd_comm {N : Nat → Int32} {a b : Nat} {x y : Int32} (h : a ≠ b) : upd (upd N b y) a x = upd (upd N a x) b y := by
  funext f
  unfold upd
  by_cases e1 : f = a
  · rw [if_pos e1, if_neg (by omega), if_pos e1]
  · rw [if_neg e1]
    by_cases e2 : f = b
    · rw [if_pos e2, if_pos e2]
    · rw [if_neg e2, if_neg e2, if_neg e1]
theorem RRR_w68 {row wr N : Nat → Int32} {r t : Nat} (h : RRR row wr N r) (ht : t ≤ 20) : RRR (upd (upd row 8 (nI 1)) 6 (nI t)) wr (upd (upd N (9 + 20 * r + 6) (nI 1)) (9 + 20 * r + 5) (nI t)) r :=
  RRR_1 (RRR_1 h (Or.inr (Or.inr (Or.inl ⟨rfl, rfl, Or.inr rfl⟩)))) (Or.inr (Or.inr (Or.inr ⟨rfl, rfl, t, ht, rfl⟩)))

set_option maxHeartbeats 1000000 in
theorem lw_widow (l : Launch) {D : va_G} {τ : Nat → ClassId} {ad : Nat → Nat} (hI : kInj ad) {G : Nat → Nat → Int32} (hR : REL G) {x y : Int32} : kM l yX6_widow cX6_widow 5 (some .int) { frames := 4, cells := 0, slots := 0, locals := 104 } D τ ad [.ref (ad 7), .int x, .int y] G (fun v G1 => kM l yX7_widow cX7_widow 4 (some .int) { frames := 6, cells := 0, slots := 0, locals := 139 } D τ ad [.ref (ad 0), .int x, .int y] G1 (fun w G2 => w = v ∧ REL G2)) := by
  have hR0 := hR
  obtain ⟨⟨n, k, W, P, mo, ow, vx, hC⟩, ⟨L, pi, hH⟩, hS⟩ := hR
  obtain ⟨p1, p2, p3, p4, ⟨p5, p6, p7, p8⟩, p9, p10, p11, ⟨p12, p13, p14⟩, p15, p16, p17, p18, p19⟩ := pre_of hC hH
  refine kM_mono (c_X6_widow l hI p1 p2 p3 p4 p5 p6 p7 p8 p9 p10 (cu_hp hC.1)) (fun v G1 hc => ?_)
  have ref := fun (G1 : Nat → Nat → Int32) (h : ∀ q, q < 7 → G1 q = G q) (R' : Int32 → (Nat → Nat → Int32) → Prop) hh => kM_mono (D := D) (τ := τ) (R' := R') (c_X7_widow l hI (G := G1) (x := x) (y := y) (Wn := W) (n := n) (L := L) (by rw [h 1 (by omega)]; exact p12) p13 (by omega) (by rw [h 1 (by omega)]; exact p15) p6 (by rw [h 0 (by omega)]; exact p18) p2) hh
  rcases rdP_yn hc with ⟨r, r1, r2, hc⟩ | ⟨r1, rfl, rfl⟩
  · obtain ⟨c1, c2, c3, c4, c5, c6, c7, c8, c9, -⟩ := cu_rd hC.1 r1
    try dsimp only at hc
    rw [c1, c8] at hc
    have hz8 : G 1 (9 + 20 * r + 6) = 0 ↔ ¬ G 1 (9 + 20 * r + 6) = nI 1 := by
      rcases c9 with z | z
      · rw [z]; exact ⟨fun _ => by decide, fun _ => rfl⟩
      · rw [z]; exact ⟨fun w => absurd w (by decide), fun w => absurd rfl w⟩
    by_cases z1 : nI 1 ≤ y ∧ y ≤ nI 20
    · rw [if_pos z1] at hc
      by_cases z2 : G 1 (9 + 20 * r + 2) = 0 ∧ G 1 (9 + 20 * r + 6) = 0
      · rw [if_pos z2] at hc
        obtain ⟨Gr, g1, rfl, rfl⟩ := hc
        have e0 := rcR_0 g1 p2 p4
        have hfr : ∀ q, q < 7 → gs (gs Gr (rN 0 r) 8 (nI 1)) (rN 0 r) 6 y q = G q := fun q hq => by rw [gs_other (by unfold rN; omega), gs_other (by unfold rN; omega)]; exact e0 q (by omega) (by omega) (by omega)
        refine ref _ hfr _ (fun w G2 hm => ?_)
        have hm := hm.1 r r1 r2
        try dsimp only at hm
        rw [hfr 1 (by omega), if_pos z1, if_pos ⟨z2.1, hz8.mp z2.2⟩] at hm
        obtain ⟨rfl, rfl⟩ := hm
        have hCr := cur_r hC g1 p2 p4
        refine ⟨(cu_due hCr.1 r1).symm, act_rel (G1 := gs (gs Gr (rN 0 r) 8 (nI 1)) (rN 0 r) 6 y) hS hH hC g1 (fun q hq => by rw [gs_other (by unfold rN; omega), gs_other (by unfold rN; omega)]) (fun q q1 _ => by rw [gs_other q1, gs_other q1]) ⟨n, k, W, P, mo, ow, vx, ?_⟩⟩
        rw [gs_up, gs_up, recM_1, hfr 1 (by omega)]
        obtain ⟨t, t1, rfl⟩ := nI_of2 (x := y) (M := nI 20) (n := 20) rfl (Int32.not_lt.mpr (Int32.le_trans (by decide) z1.1)) z1.2
        refine cur_rd (r := r) hCr r1 (fun q q1 q2 => by rw [gs_other q1, gs_other q1]) (fun f hf => by rw [upd_ne (by omega), upd_ne (by omega)]) (by rw [upd_ne (by omega), upd_ne (by omega)]) (by rw [upd_ne (by omega), upd_ne (by omega)]) (by rw [upd_ne (by omega), upd_ne (by omega)]) ?_
        rw [gs_up, gs_up, gs_other (show rW 0 r ≠ rN 0 r by unfold rW rN; omega), gs_other (show rW 0 r ≠ rN 0 r by unfold rW rN; omega), upd_comm (show 9 + 20 * r + 6 ≠ 9 + 20 * r + 5 by omega)]
        exact RRR_w68 (cu_rd hCr.1 r1) t1
      · rw [if_neg z2] at hc
        obtain ⟨rfl, rfl⟩ := hc
        refine ref _ (fun _ _ => rfl) _ (fun w G2 hm => ?_)
        have hm := hm.1 r r1 r2
        try dsimp only at hm
        rw [if_pos z1, if_neg (fun z => z2 ⟨z.1, hz8.mpr z.2⟩)] at hm
        exact ⟨hm.1, by rw [hm.2]; exact hR0⟩
    · rw [if_neg z1] at hc
      obtain ⟨rfl, rfl⟩ := hc
      refine ref _ (fun _ _ => rfl) _ (fun w G2 hm => ?_)
      have hm := hm.1 r r1 r2
      try dsimp only at hm
      rw [if_neg z1] at hm
      exact ⟨hm.1, by rw [hm.2]; exact hR0⟩
  · refine ref _ (fun _ _ => rfl) _ (fun w G2 hm => ?_)
    have hm := hm.2 r1
    exact ⟨hm.1, by rw [hm.2]; exact hR0⟩

set_option maxHeartbeats 1000000 in
theorem lw_read (l : Launch) {D : va_G} {τ : Nat → ClassId} {ad : Nat → Nat} (hI : kInj ad) {G : Nat → Nat → Int32} (hR : REL G) {x y : Int32} : kM l yX6_read cX6_read 4 (some .int) { frames := 4, cells := 0, slots := 0, locals := 104 } D τ ad [.ref (ad 7), .int x, .int y] G (fun v G1 => kM l yX7_read cX7_read 3 (some .int) { frames := 2, cells := 0, slots := 0, locals := 48 } D τ ad [.ref (ad 0), .int x, .int y] G1 (fun w G2 => w = v ∧ REL G2)) := by
  have hR0 := hR
  obtain ⟨⟨n, k, W, P, mo, ow, vx, hC⟩, ⟨L, pi, hH⟩, hS⟩ := hR
  obtain ⟨p1, p2, p3, p4, ⟨p5, p6, p7, p8⟩, p9, p10, p11, ⟨p12, p13, p14⟩, p15, p16, p17, p18, p19⟩ := pre_of hC hH
  refine kM_mono (c_X6_read l hI p1 p2 p3 p4 p5 p6 p7 p8 p9 p10 (cu_hp hC.1)) (fun v G1 hc => ?_)
  have ref := fun (G1 : Nat → Nat → Int32) (h : ∀ q, q < 7 → G1 q = G q) (R' : Int32 → (Nat → Nat → Int32) → Prop) hh => kM_mono (D := D) (τ := τ) (R' := R') (c_X7_read l hI (G := G1) (x := x) (y := y) (Wn := W) (n := n) (L := L) (by rw [h 1 (by omega)]; exact p12) p13 (by omega) (by rw [h 1 (by omega)]; exact p15) p6 (by rw [h 0 (by omega)]; exact p18) p2) hh
  rcases rdP_yn hc with ⟨r, r1, r2, hc⟩ | ⟨r1, rfl, rfl⟩
  · try dsimp only at hc
    rcases rdP_yn hc with ⟨c, m1, m2, hc⟩ | ⟨m1, rfl, rfl⟩
    · obtain ⟨c1, c2, c3, c4, c5, c6, c7, c8, c9, c10, c11, c12⟩ := cu_rd hC.1 r1
      try dsimp only at hc
      rw [c1, c2, c4, c5] at hc
      by_cases z2 : G 1 (9 + 20 * r + 2) = 0
      · rw [if_pos z2] at hc
        obtain ⟨Gr, g1, hc⟩ := hc
        have e0 := rcR_0 g1 p2 p4
        have hCr := cur_r hC g1 p2 p4
        by_cases z3 : hw (G 1 (9 + 20 * r + 4)) c
        · rw [if_pos z3] at hc
          obtain ⟨rfl, rfl⟩ := hc
          have hfr : ∀ q, q < 7 → G1 q = G q := fun q hq => e0 q (by omega) (by omega) (by omega)
          refine ref _ hfr _ (fun w G2 hm => ?_)
          have hm := hm.1 r r1 r2
          try dsimp only at hm
          have hm := hm.1 c m1 m2
          rw [hfr 1 (by omega), if_pos z2, if_pos z3] at hm
          obtain ⟨rfl, rfl⟩ := hm
          refine ⟨(c12 c m1 z3).symm, act_rel hS hH hC g1 (fun q hq => rfl) (fun q q1 _ => rfl) ⟨n, k, W, P, mo, ow, vx, ?_⟩⟩
          rw [recM_1, hfr 1 (by omega)]
          exact hCr
        · rw [if_neg z3] at hc
          obtain ⟨rfl, rfl⟩ := hc
          have hfr : ∀ q, q < 7 → gs Gr (rN 0 r) 4 (G 1 (9 + 20 * r + 3) ||| bt c) q = G q := fun q hq => by rw [gs_other (by unfold rN; omega)]; exact e0 q (by omega) (by omega) (by omega)
          refine ref _ hfr _ (fun w G2 hm => ?_)
          have hm := hm.1 r r1 r2
          try dsimp only at hm
          have hm := hm.1 c m1 m2
          rw [hfr 1 (by omega), if_pos z2, if_neg z3] at hm
          obtain ⟨rfl, rfl⟩ := hm
          have e1 : gs (recM (gs Gr (rN 0 r) 4 (G 1 (9 + 20 * r + 3) ||| bt c)) L) 1 (9 + 20 * r + 3) (G 1 (9 + 20 * r + 3) ||| bt c) 1 = upd (G 1) (9 + 20 * r + 3) (G 1 (9 + 20 * r + 3) ||| bt c) := by rw [gs_up, recM_1, hfr 1 (by omega)]
          have hC2 : CurR (gs Gr (rN 0 r) 4 (G 1 (9 + 20 * r + 3) ||| bt c)) 0 (upd (G 1) (9 + 20 * r + 3) (G 1 (9 + 20 * r + 3) ||| bt c)) n k W P mo ow vx := by
            refine cur_rd (r := r) hCr r1 (fun q q1 q2 => gs_other q1) (fun f hf => upd_ne (by omega)) (upd_ne (by omega)) (upd_ne (by omega)) (upd_ne (by omega)) ?_
            rw [gs_up, gs_other (show rW 0 r ≠ rN 0 r by unfold rW rN; omega)]
            exact RRR_1 (cu_rd hCr.1 r1) (Or.inr (Or.inl ⟨rfl, rfl⟩))
          refine ⟨?_, act_rel hS hH hC g1 (fun q hq => gs_other (by unfold rN; omega)) (fun q q1 _ => gs_other q1) ⟨n, k, W, P, mo, ow, vx, ?_⟩⟩
          · rw [e1]
            have hin := ABS_f (cu_ab hC.1) r1 z2 m1
            obtain ⟨e3, e4⟩ := cu_po hC.1 r1 z2 m1
            have h10 := cu_P10 hC.1 m1
            rw [cu_va hC2.1 r1 (by rw [upd_ne (by omega)]; exact z2) m1, (cu_row hC2.1 m1 hin).2.2, gs_other (by unfold cV rN; omega), e0 _ (by unfold cV; omega) (by unfold cV; omega) (by unfold cV; omega), ← c2, vsF_at e3 (by omega)]
          · rw [e1]
            exact hC2
      · rw [if_neg z2] at hc
        obtain ⟨rfl, rfl⟩ := hc
        refine ref _ (fun _ _ => rfl) _ (fun w G2 hm => ?_)
        have hm := hm.1 r r1 r2
        try dsimp only at hm
        have hm := hm.1 c m1 m2
        try dsimp only at hm
        rw [if_neg z2] at hm
        exact ⟨hm.1, by rw [hm.2]; exact hR0⟩
    · refine ref _ (fun _ _ => rfl) _ (fun w G2 hm => ?_)
      have hm := hm.1 r r1 r2
      try dsimp only at hm
      have hm := hm.2 m1
      exact ⟨hm.1, by rw [hm.2]; exact hR0⟩
  · refine ref _ (fun _ _ => rfl) _ (fun w G2 hm => ?_)
    have hm := hm.2 r1
    exact ⟨hm.1, by rw [hm.2]; exact hR0⟩

set_option maxHeartbeats 1000000 in
theorem lw_write (l : Launch) {D : va_G} {τ : Nat → ClassId} {ad : Nat → Nat} (hI : kInj ad) {G : Nat → Nat → Int32} (hR : REL G) {x y z : Int32} : kM l yX6_write cX6_write 5 (some .int) { frames := 4, cells := 0, slots := 0, locals := 104 } D τ ad [.ref (ad 7), .int x, .int y, .int z] G (fun v G1 => kM l yX7_write cX7_write 4 (some .int) { frames := 2, cells := 0, slots := 0, locals := 46 } D τ ad [.ref (ad 0), .int x, .int y, .int z] G1 (fun w G2 => w = v ∧ REL G2)) := by
  have hR0 := hR
  obtain ⟨⟨n, k, W, P, mo, ow, vx, hC⟩, ⟨L, pi, hH⟩, hS⟩ := hR
  obtain ⟨p1, p2, p3, p4, ⟨p5, p6, p7, p8⟩, p9, p10, p11, ⟨p12, p13, p14⟩, p15, p16, p17, p18, p19⟩ := pre_of hC hH
  refine kM_mono (c_X6_write l hI p1 p2 p3 p4 p5 p6 p7 p8 p9 p10) (fun v G1 hc => ?_)
  have ref := fun (G1 : Nat → Nat → Int32) (h : ∀ q, q < 7 → G1 q = G q) (R' : Int32 → (Nat → Nat → Int32) → Prop) hh => kM_mono (D := D) (τ := τ) (R' := R') (c_X7_write l hI (G := G1) (x := x) (y := y) (z := z) (n := n) (L := L) (by rw [h 1 (by omega)]; exact p15) p6 (by rw [h 0 (by omega)]; exact p18) p2) hh
  rcases rdP_yn hc with ⟨r, r1, r2, hc⟩ | ⟨r1, rfl, rfl⟩
  · try dsimp only at hc
    rcases rdP_yn hc with ⟨c, m1, m2, hc⟩ | ⟨m1, rfl, rfl⟩
    · obtain ⟨c1, c2, c3, c4, c5, c6, c7, c8, c9, c10, c11, c12⟩ := cu_rd hC.1 r1
      try dsimp only at hc
      rw [c1, c5] at hc
      by_cases z1 : nI 0 ≤ z ∧ z ≤ nI 9999
      · rw [if_pos z1] at hc
        by_cases z2 : G 1 (9 + 20 * r + 2) = 0
        · rw [if_pos z2] at hc
          obtain ⟨Gr, g1, rfl, rfl⟩ := hc
          have e0 := rcR_0 g1 p2 p4
          have hCr := cur_r hC g1 p2 p4
          have hfr : ∀ q, q < 7 → gs (gs Gr (rW 0 r) c z) (rN 0 r) 5 (G 1 (9 + 20 * r + 4) ||| bt c) q = G q := fun q hq => by rw [gs_other (by unfold rN; omega), gs_other (by unfold rW; omega)]; exact e0 q (by omega) (by omega) (by omega)
          refine ref _ hfr _ (fun w G2 hm => ?_)
          have hm := hm.1 r r1 r2
          try dsimp only at hm
          have hm := hm.1 c m1 m2
          rw [hfr 1 (by omega), if_pos z1, if_pos z2] at hm
          obtain ⟨rfl, rfl⟩ := hm
          have hs12 : sml (G 1 (9 + 20 * r + 4) ||| bt c) 12 := sml_or (by omega) c10 (sml_bt m1 (by omega))
          refine ⟨(bc_ones hs12).symm, act_rel (G1 := gs (gs Gr (rW 0 r) c z) (rN 0 r) 5 (G 1 (9 + 20 * r + 4) ||| bt c)) hS hH hC g1 (fun q hq => by rw [gs_other (by unfold rN; omega), gs_other (by unfold rW; omega)]) (fun q q1 _ => by rw [gs_other q1, gs_other q1]) ⟨n, k, W, P, mo, ow, vx, ?_⟩⟩
          rw [gs_up, gs_up, recM_1, hfr 1 (by omega)]
          refine cur_rd (r := r) hCr r1 (fun q q1 q2 => by rw [gs_other q1, gs_other q2]) (fun f hf => by rw [upd_ne (by omega), upd_ne (by omega)]) (by rw [upd_ne (by omega), upd_ne (by omega)]) (by rw [upd_ne (by omega), upd_ne (by omega)]) (by rw [upd_ne (by omega), upd_ne (by omega)]) ?_
          have hw1 := RRR_w (z := z) (cu_rd hCr.1 r1) m1
          rw [gs_up, gs_other (show rN 0 r ≠ rW 0 r by unfold rW rN; omega), gs_other (show rW 0 r ≠ rN 0 r by unfold rW rN; omega), gs_up, ← c5, ← e0 (rN 0 r) (by unfold rN; omega) (by unfold rN; omega) (by unfold rN; omega)]
          have ew : Gr (rN 0 r) 5 = G 1 (9 + 20 * r + 4) := (cu_rd hCr.1 r1).2.2.2.2.1
          rw [ew] at hw1 ⊢
          exact hw1
        · rw [if_neg z2] at hc
          obtain ⟨rfl, rfl⟩ := hc
          refine ref _ (fun _ _ => rfl) _ (fun w G2 hm => ?_)
          have hm := hm.1 r r1 r2
          try dsimp only at hm
          have hm := hm.1 c m1 m2
          try dsimp only at hm
          rw [if_pos z1, if_neg z2] at hm
          exact ⟨hm.1, by rw [hm.2]; exact hR0⟩
      · rw [if_neg z1] at hc
        obtain ⟨rfl, rfl⟩ := hc
        refine ref _ (fun _ _ => rfl) _ (fun w G2 hm => ?_)
        have hm := hm.1 r r1 r2
        try dsimp only at hm
        have hm := hm.1 c m1 m2
        try dsimp only at hm
        rw [if_neg z1] at hm
        exact ⟨hm.1, by rw [hm.2]; exact hR0⟩
    · refine ref _ (fun _ _ => rfl) _ (fun w G2 hm => ?_)
      have hm := hm.1 r r1 r2
      try dsimp only at hm
      have hm := hm.2 m1
      exact ⟨hm.1, by rw [hm.2]; exact hR0⟩
  · refine ref _ (fun _ _ => rfl) _ (fun w G2 hm => ?_)
    have hm := hm.2 r1
    exact ⟨hm.1, by rw [hm.2]; exact hR0⟩
