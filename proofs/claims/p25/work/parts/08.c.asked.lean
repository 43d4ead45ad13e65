/-! The questions: what they answer, of the state's numbers. -/
def ctN (N : Nat → Int32) (L T : Int32) (V n k : Nat) (y : Int32) : Int32 := if y = nI 0 then N 0 else if y = nI 1 then N 1 else if y = nI 2 then N 2 else if y = nI 3 then nI (cn (fun r => if N (9 + 20 * r + 2) = nI 0 then 1 else 0) n) else if y = nI 4 then nI (cn (fun r => if N (9 + 20 * r + 2) = nI 1 then 1 else 0) n) else if y = nI 5 then nI (cn (fun r => if N (9 + 20 * r + 2) = nI 2 then 1 else 0) n) else if y = nI 6 then nI (cn (fun r => if N (9 + 20 * r + 2) = nI 3 then 1 else 0) n) else if y = nI 7 then nI V - nI 12 else if y = nI 8 then N 3 else if y = nI 9 then N 4 else if y = nI 10 then N 5 else if y = nI 11 then N 6 else if y = nI 12 then nI (cn (fun q => cn (swM N q) q) k) else if y = nI 13 then N 7 else if y = nI 14 then nI (cn (fun r => if N (9 + 20 * r + 2) = 0 ∧ 0 < N (9 + 20 * r + 5) then 1 else 0) n) else if y = nI 15 then L else if y = nI 16 then T else -2
def aCt (N : Nat → Int32) (L : Nat) (y : Int32) : Int32 := ctN N (nI L) 0 (nZ (N 8)) (nZ (N 2)) (nZ (N 6)) y
def aCl (N : Nat → Int32) (x y : Int32) : Int32 := rdS 12 x (fun c => clM N (nZ (N 8)) (nZ (N 2)) c y) (-1)
def aVr (N : Nat → Int32) (x p y : Int32) : Int32 := rdS 12 x (fun c => if ¬ p < 0 ∧ (nI 0 ≤ y ∧ y ≤ nI 4) then (if nI (vcM N (nZ (N 8)) c) ≤ p then -5 else vrM N (nZ (N 8)) (nZ (N 2)) (vwF N (nZ (N 8)) c (nZ p)) p y) else -2) (-1)
def aRd (N : Nat → Int32) (x y : Int32) : Int32 := rdS (nZ (N 2)) x (fun r => rdM N (nZ (N 8)) (nZ (N 2)) (nZ (N 6)) r y) (-1)
def aCm (N : Nat → Int32) (x y : Int32) : Int32 := rdS (nZ (N 6)) x (fun q => if nI 0 ≤ y ∧ y ≤ nI 5 then (if y = nI 5 then nI (cn (swM N q) q) else N (1001 + 5 * q + y.toNatClampNeg)) else -2) (-1)
theorem an_countN {G : Nat → Nat → Int32} {N : Nat → Int32} {n k W : Nat} {P : Nat → Nat} {mo : Nat → Nat → Nat} {ow : Nat → Nat} {vx : Nat → Nat → Nat} (h : Cur0 G 0 N n k W P mo ow vx) (y : Int32) : ctC G n k P y = ctN N (G 8 1) (G 10 1) W n k y := by
  obtain ⟨s1, s2, s3, s4, s5, s6, s7, s8, s9, s10, s11, s12⟩ := cu_sc h
  have e7 : (if G (sB 0) 9 = 0 then nI 0 else nI 1) = N 7 := by
    rw [s9]
    rcases s10 with z | z
    · rw [if_pos z, z]; rfl
    · rw [if_neg (by rw [z]; decide), z]
  have e5 : sm (fun i => G (rN 0 i) 7) n = N 5 := by
    rw [s12]
    exact sm_congr (fun r hr => (cu_rd h hr).2.2.2.2.2.2.1)
  unfold ctC ctN
  rw [e7, e5, cu_pairs h, ← cu_oldm h, an_states h, an_states h, an_states h, an_states h, an_widows h, s1, s2, s3, s4, s5, s6, s7, s8, (cu_ab h).2.1]
theorem ctN_T {N : Nat → Int32} {L T T' : Int32} {V n k : Nat} {y : Int32} (hy : ¬ y = nI 16) : ctN N L T V n k y = ctN N L T' V n k y := by
  unfold ctN
  rw [if_neg hy, if_neg hy]
theorem aCt_L {N : Nat → Int32} {L L' : Nat} {y : Int32} (hy : ¬ y = nI 15) : aCt N L y = aCt N L' y := by
  unfold aCt ctN
  rw [if_neg hy, if_neg hy]
theorem ln_count (l : Launch) {D : va_G} {τ : Nat → ClassId} {ad : Nat → Nat} (hI : kInj ad) {G : Nat → Nat → Int32} {N : Nat → Int32} {L : Nat} {Hs : Nat → Nat → Int32} {y : Int32} (hR : RLN G N L Hs) (hy : ¬ y = nI 16) : kM l yX6_count cX6_count 2 (some .int) { frames := 2, cells := 0, slots := 0, locals := 42 } D τ ad [.ref (ad 7), .int y] G (fun v G1 => v = aCt N L y ∧ G1 = G) := by
  obtain ⟨⟨n, k, W, P, mo, ow, vx, hC⟩, pi, hH⟩ := hR
  obtain ⟨p1, p2, p3, p4, ⟨p5, p6, p7, p8⟩, p9, p10, p11, ⟨p12, p13, p14⟩, p15, p16, p17, p19⟩ := pre_n hC hH
  refine kM_mono (c_X6_count l hI p5 p6 p7 p8 (cu_hp hC.1)) (fun v G1 hc => ?_)
  obtain ⟨rfl, rfl⟩ := hc
  refine ⟨?_, rfl⟩
  unfold aCt
  rw [nZ_of p12 (by omega), nZ_of p15 (by omega), nZ_of p16 (by omega), an_countN hC.1, p1]
  exact ctN_T hy
theorem ln_cell (l : Launch) {D : va_G} {τ : Nat → ClassId} {ad : Nat → Nat} (hI : kInj ad) {G : Nat → Nat → Int32} {N : Nat → Int32} {L : Nat} {Hs : Nat → Nat → Int32} {x y : Int32} (hR : RLN G N L Hs) : kM l yX6_cell cX6_cell 4 (some .int) { frames := 2, cells := 0, slots := 0, locals := 47 } D τ ad [.ref (ad 7), .int x, .int y] G (fun v G1 => v = aCl N x y ∧ G1 = G) := by
  obtain ⟨⟨n, k, W, P, mo, ow, vx, hC⟩, pi, hH⟩ := hR
  obtain ⟨p1, p2, p3, p4, ⟨p5, p6, p7, p8⟩, p9, p10, p11, ⟨p12, p13, p14⟩, p15, p16, p17, p19⟩ := pre_n hC hH
  refine kM_mono (c_X6_cell l hI p5 p6 (cu_hp hC.1)) (fun v G1 hc => ?_)
  obtain ⟨rfl, hc⟩ := hc
  refine ⟨?_, rfl⟩
  unfold aCl
  rw [nZ_of p12 (by omega), nZ_of p15 (by omega)]
  rcases rdP_yn hc with ⟨c, q1, q2, q3⟩ | ⟨q1, q2⟩
  · rw [rdS_h q1 (by omega) q2, q3, an_cell hC.1 q1]
  · rw [rdS_m (by omega) q1, q2]
theorem ln_reader (l : Launch) {D : va_G} {τ : Nat → ClassId} {ad : Nat → Nat} (hI : kInj ad) {G : Nat → Nat → Int32} {N : Nat → Int32} {L : Nat} {Hs : Nat → Nat → Int32} {x y : Int32} (hR : RLN G N L Hs) : kM l yX6_reader cX6_reader 4 (some .int) { frames := 4, cells := 0, slots := 0, locals := 93 } D τ ad [.ref (ad 7), .int x, .int y] G (fun v G1 => v = aRd N x y ∧ G1 = G) := by
  obtain ⟨⟨n, k, W, P, mo, ow, vx, hC⟩, pi, hH⟩ := hR
  obtain ⟨p1, p2, p3, p4, ⟨p5, p6, p7, p8⟩, p9, p10, p11, ⟨p12, p13, p14⟩, p15, p16, p17, p19⟩ := pre_n hC hH
  refine kM_mono (c_X6_reader l hI p5 p6 p7 p8 (cu_hp hC.1)) (fun v G1 hc => ?_)
  obtain ⟨rfl, hc⟩ := hc
  refine ⟨?_, rfl⟩
  unfold aRd
  rw [nZ_of p12 (by omega), nZ_of p15 (by omega), nZ_of p16 (by omega)]
  rcases rdP_yn hc with ⟨c, q1, q2, q3⟩ | ⟨q1, q2⟩
  · rw [rdS_h q1 p6 q2, q3, an_reader hC.1 p8 q1]
  · rw [rdS_m p6 q1, q2]
theorem ln_committed (l : Launch) {D : va_G} {τ : Nat → ClassId} {ad : Nat → Nat} (hI : kInj ad) {G : Nat → Nat → Int32} {N : Nat → Int32} {L : Nat} {Hs : Nat → Nat → Int32} {x y : Int32} (hR : RLN G N L Hs) : kM l yX6_committed cX6_committed 4 (some .int) { frames := 0, cells := 0, slots := 0, locals := 0 } D τ ad [.ref (ad 7), .int x, .int y] G (fun v G1 => v = aCm N x y ∧ G1 = G) := by
  obtain ⟨⟨n, k, W, P, mo, ow, vx, hC⟩, pi, hH⟩ := hR
  obtain ⟨p1, p2, p3, p4, ⟨p5, p6, p7, p8⟩, p9, p10, p11, ⟨p12, p13, p14⟩, p15, p16, p17, p19⟩ := pre_n hC hH
  refine kM_mono (c_X6_committed l hI p7 p8) (fun v G1 hc => ?_)
  obtain ⟨rfl, hc⟩ := hc
  refine ⟨?_, rfl⟩
  unfold aCm
  rw [nZ_of p16 (by omega)]
  rcases rdP_yn hc with ⟨c, q1, q2, q3⟩ | ⟨q1, q2⟩
  · rw [rdS_h q1 p8 q2, q3, an_committed hC.1 q1]
  · rw [rdS_m p8 q1, q2]
theorem ln_version (l : Launch) {D : va_G} {τ : Nat → ClassId} {ad : Nat → Nat} (hI : kInj ad) {G : Nat → Nat → Int32} {N : Nat → Int32} {L : Nat} {Hs : Nat → Nat → Int32} {x p y : Int32} (hR : RLN G N L Hs) : kM l yX6_version cX6_version 5 (some .int) { frames := 3, cells := 0, slots := 0, locals := 70 } D τ ad [.ref (ad 7), .int x, .int p, .int y] G (fun v G1 => v = aVr N x p y ∧ G1 = G) := by
  obtain ⟨⟨n, k, W, P, mo, ow, vx, hC⟩, pi, hH⟩ := hR
  obtain ⟨p1, p2, p3, p4, ⟨p5, p6, p7, p8⟩, p9, p10, p11, ⟨p12, p13, p14⟩, p15, p16, p17, p19⟩ := pre_n hC hH
  refine kM_mono (c_X6_version l hI p5 p6 (cu_hp hC.1)) (fun v G1 hc => ?_)
  obtain ⟨rfl, hc⟩ := hc
  refine ⟨?_, rfl⟩
  unfold aVr
  rw [nZ_of p12 (by omega), nZ_of p15 (by omega)]
  rcases rdP_yn hc with ⟨c, q1, q2, q3⟩ | ⟨q1, q2⟩
  · rw [rdS_h q1 (by omega) q2]
    have hv : vcM N W c = P c := cu_vers hC.1 q1
    rw [hv]
    by_cases z : ¬ p < 0 ∧ nI 0 ≤ y ∧ y ≤ nI 4
    · rw [if_pos z] at q3 ⊢
      by_cases z2 : nI (P c) ≤ p
      · rw [if_pos z2] at q3 ⊢; exact q3
      · rw [if_neg z2] at q3 ⊢
        obtain ⟨q, e1, rfl⟩ := nI_of z.1
        have h10 := cu_P10 hC.1 q1
        have hq : q < P c := by
          rcases Nat.lt_or_ge q (P c) with u | u
          · exact u
          · exact absurd (nI_le u (by omega)) z2
        rw [q3, an_version hC.1 q1 hq, nZ_of rfl (by omega)]
    · rw [if_neg z] at q3 ⊢; exact q3
  · rw [rdS_m (by omega) q1, q2]
theorem ln_undo (l : Launch) {D : va_G} {τ : Nat → ClassId} {ad : Nat → Nat} (hI : kInj ad) {G : Nat → Nat → Int32} {N : Nat → Int32} {L : Nat} {Hs : Nat → Nat → Int32} (hR : RLN G N L Hs) (hL1 : 1 ≤ L) : kM l yX6_undo cX6_undo 1 (some .int) { frames := 4, cells := 0, slots := 0, locals := 104 } D τ ad [.ref (ad 7)] G (fun v G1 => v = nI (L - 1) ∧ RLN G1 (Hs (L - 1)) (L - 1) Hs ∧ G1 0 = G 0) := by
  obtain ⟨hE, pi, hH⟩ := hR
  obtain ⟨a1, a3, a4, a5, a6⟩ := hH
  have hpi : ∀ t, t < 4 → G 9 t = nI (pi t) ∧ pi t < 7 := fun t ht => ⟨(a4 t ht).1, (a4 t ht).2.2⟩
  have hne : ∀ t, t < 4 → pi t ≠ 0 := fun t ht => by have := (a4 t ht).2.1; omega
  obtain ⟨n, k, W, P, mo, ow, vx, hC⟩ := a6 (L - 1) (by omega)
  have hj := (a4 (L - 1) (by omega)).2
  obtain ⟨s1, s2, s3, s4, s5, s6, s7, s8, s9, s10, s11, s12⟩ := cu_sc hC.1
  have hn4 := (cu_ab hC.1).2.2.2.1
  have hk := hC.2.1.1
  refine kM_mono (c_X6_undo l hI (n := n) (k := k) a1 a3 hpi hne (fun _ => s4) hn4 (fun _ => s6) (by omega) (fun _ r hr => ?_) (fun _ => by rw [s9]; exact s10)) (fun v G1 hc => ?_)
  · obtain ⟨-, -, -, -, -, -, -, c8, c9, -⟩ := cu_rd hC.1 hr
    rw [c8]; exact c9
  rw [if_neg (by omega)] at hc
  obtain ⟨rfl, b1, b2, b3⟩ := hc
  have hlo : ∀ q, q < 14 → q ≠ 8 → G1 q = G q := fun q hq h8 => b2 q h8 (Or.inl (by unfold sB; omega))
  have hhi : ∀ q, 175 ≤ q → G1 q = G q := fun q hq => b2 q (by omega) (Or.inr (by unfold sB; omega))
  refine ⟨rfl, ⟨⟨n, k, W, P, mo, ow, vx, cur_CB hC b3⟩, pi, b1, by omega, fun t ht => ?_, a5, fun t ht => ?_⟩, hlo 0 (by omega) (by omega)⟩
  · rw [hlo 9 (by omega) (by omega)]; exact a4 t ht
  · have := (a4 t (by omega)).2
    exact curE_g (a6 t (by omega)) (fun o ho => hhi _ (by unfold sB; omega))
