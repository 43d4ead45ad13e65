/-! Contracts of the class and the reference, one behind the other: open, close, readWrites. -/
section LEV
variable {G G' : Nat → Nat → Int32} {j : Nat} {N : Nat → Int32} {n k W : Nat} {P : Nat → Nat} {mo : Nat → Nat → Nat} {ow : Nat → Nat} {vx : Nat → Nat → Nat}
/-- what is unseen goes: the relation stands again -/
theorem cur_rm {v : Int32} (h : Cur0 G j N n k W P mo ow vx) (hb : k + opn N n ≤ n ∧ opn N n ≤ 8) (hW : W ≤ 64) (hr : ruR G G' j n P v) (hV : (rmD N n W W).2.1 ≤ 52) : (∃ P' mo' vx', CurR G' j (rmN N n W) n k (rmD N n W W).2.1 P' mo' ow vx') ∧ v = nI (rmD N n W W).2.2 ∧ (rmD N n W W).2.1 ≤ W := by
  have hn4 := (cu_ab h).2.2.2.1
  obtain ⟨P', mo', vx', a1, a2, a3, a4, a5⟩ := rv_all h hW (by omega) hr
  refine ⟨⟨P', mo', vx', a1, ?_, a2⟩, a3, a5⟩
  rw [opn_cg (N' := rmN N n W) (N := N) (fun r hr => a4 _ (by omega) (by omega) (Or.inl (by omega)))]
  exact ⟨hb.1, hb.2, hV⟩
theorem opn_leave {r : Nat} {x : Int32} (hr : r < n) (ho : N (9 + 20 * r + 2) = 0) (hx : ¬ x = 0) : opn (upd N (9 + 20 * r + 2) x) n + 1 = opn N n := by
  have e : ∀ m, (r < m → opn (upd N (9 + 20 * r + 2) x) m + 1 = opn N m) ∧ (m ≤ r → opn (upd N (9 + 20 * r + 2) x) m = opn N m) := by
    intro m
    induction m with
    | zero => exact ⟨fun h => absurd h (by omega), fun _ => rfl⟩
    | succ m ih =>
      refine ⟨fun h => ?_, fun h => ?_⟩
      · show opn (upd N (9 + 20 * r + 2) x) m + (if upd N (9 + 20 * r + 2) x (9 + 20 * m + 2) = 0 then 1 else 0) + 1 = opn N m + (if N (9 + 20 * m + 2) = 0 then 1 else 0)
        rcases Nat.lt_or_ge r m with q | q
        · have := ih.1 q
          rw [upd_ne (by omega)]; omega
        · have := ih.2 q
          rw [show m = r by omega] at this ⊢
          rw [upd_eq, if_neg hx, if_pos ho, this]
      · show opn (upd N (9 + 20 * r + 2) x) m + (if upd N (9 + 20 * r + 2) x (9 + 20 * m + 2) = 0 then 1 else 0) = opn N m + (if N (9 + 20 * m + 2) = 0 then 1 else 0)
        rw [upd_ne (by omega), ih.2 (by omega)]
  exact (e n).1 hr
theorem cur_leave {r : Nat} {x : Int32} (h : CurR G j N n k W P mo ow vx) (hr : r < n) (hx : ¬ x = 0) : Cur0 (gs G (rN j r) 1 x) j (upd N (9 + 20 * r + 2) x) n k W P mo ow vx := by
  have hn4 := (cu_ab h.1).2.2.2.1
  have hk4 : k ≤ 40 := by have := h.2.1.1; omega
  obtain ⟨s1, s2, s3, s4, s5, s6, s7, s8, s9, s10, s11, s12⟩ := cu_sc h.1
  have hu : ∀ f, f ≠ 9 + 20 * r + 2 → upd N (9 + 20 * r + 2) x f = N f := fun f hf => upd_ne hf
  have ho : ∀ q, q ≠ rN j r → gs G (rN j r) 1 x q = G q := fun q hq => gs_other hq
  have e0 := ho (sB j) (by unfold sB rN; omega)
  refine ⟨⟨by rw [e0]; exact s1, by rw [e0, hu _ (by omega)]; exact s2, by rw [e0, hu _ (by omega)]; exact s3, by rw [e0]; exact s4, by rw [hu _ (by omega)]; exact s5, by rw [e0]; exact s6, by rw [hu _ (by omega)]; exact s7, by rw [e0, hu _ (by omega)]; exact s8, by rw [e0, hu _ (by omega)]; exact s9, by rw [hu _ (by omega)]; exact s10, by rw [hu _ (by omega)]; exact s11, ?_⟩, fun t ht => ?_, fun q hq => ?_, fun c hc => ?_, ?_, ?_⟩
  · rw [hu _ (by omega), s12]
    exact sm_congr (fun t ht => (hu _ (by omega)).symm)
  · by_cases z : t = r
    · subst z
      rw [gs_up, ho _ (by unfold rW rN; omega)]
      obtain ⟨c1, c2, c3, c4, c5, c6, c7, c8, c9, c10, c11, c12⟩ := cu_rd h.1 ht
      have hr' : ∀ f, f ≠ 1 → upd (G (rN j t)) 1 x f = G (rN j t) f := fun f hf => upd_ne hf
      exact ⟨by rw [upd_eq, upd_eq], by rw [hr' 2 (by omega), hu _ (by omega)]; exact c2, by rw [hr' 3 (by omega), hu _ (by omega)]; exact c3, by rw [hr' 4 (by omega), hu _ (by omega)]; exact c4, by rw [hr' 5 (by omega), hu _ (by omega)]; exact c5, by rw [hr' 6 (by omega), hu _ (by omega)]; exact c6, by rw [hr' 7 (by omega), hu _ (by omega)]; exact c7, by rw [hr' 8 (by omega), hu _ (by omega)]; exact c8, by rw [hu _ (by omega)]; exact c9, by rw [hu _ (by omega)]; exact c10, by rw [hu _ (by omega)]; exact c11, fun c hc hh => by rw [hu _ (by omega)] at hh; rw [hu _ (by omega)]; exact c12 c hc hh⟩
    · exact RRR_congr (fun f hf => hu _ (by omega)) (ho _ (by unfold rN; omega)) (ho _ (by unfold rN rW; omega)) (cu_rd h.1 ht)
  · rw [ho (mC j q) (by unfold mC rN; omega)]
    exact CMR_congr (fun f f1 _ => hu f (by omega)) (by omega) (cu_cm h.1 hq)
  · show gs G (rN j r) 1 x (cB j c) 2 = _ ∧ ∀ p, p < P c → gs G (rN j r) 1 x (cM j c) p = _
    rw [ho (cB j c) (by unfold cB rN; omega), ho (cM j c) (by unfold cM rN; omega)]
    exact cu_cl h.1 hc
  · obtain ⟨a1, a2, a3, a4, a5, a6⟩ := cu_ab h.1
    refine ⟨a1, by rw [hu _ (by omega)]; exact a2, a3, a4, fun t ht => by rw [hu _ (by omega)]; exact a5 t ht, fun t ht ho2 => ?_⟩
    by_cases z : t = r
    · rw [z, upd_eq] at ho2; exact absurd ho2 hx
    · exact a6 t ht (by rw [hu _ (by omega)] at ho2; exact ho2)
  · exact TbS_cg (cu_tb h.1) (by have := h.2.1.2.2; omega) (fun f f1 _ => hu f (by omega)) (fun c p hc hp => by rw [ho _ (by unfold cV rN; omega)])
/-- one write -/
theorem cur_w {r c : Nat} {z : Int32} (h : CurR G j N n k W P mo ow vx) (hr : r < n) (hc : c < 12) : CurR (gs (gs G (rW j r) c z) (rN j r) 5 (G (rN j r) 5 ||| bt c)) j (upd (upd N (9 + 20 * r + 4) (N (9 + 20 * r + 4) ||| bt c)) (9 + 20 * r + (8 + c)) z) n k W P mo ow vx := by
  refine cur_rd (r := r) h hr (fun q q1 q2 => by rw [gs_other q1, gs_other q2]) (fun f hf => by rw [upd_ne (by omega), upd_ne (by omega)]) (by rw [upd_ne (by omega), upd_ne (by omega)]) (by rw [upd_ne (by omega), upd_ne (by omega)]) (by rw [upd_ne (by omega), upd_ne (by omega)]) ?_
  have hw1 := RRR_w (z := z) (cu_rd h.1 hr) hc
  rw [gs_up, gs_other (show rN j r ≠ rW j r by unfold rW rN; omega), gs_other (show rW j r ≠ rN j r by unfold rW rN; omega), gs_up]
  exact hw1
theorem cur_ws {r : Nat} {S : Nat → Int32} {T w : Nat} (h : CurR G 0 N n k W P mo ow vx) (hr : r < n) (hq : ∀ t, t < w → ∃ q, q < 12 ∧ wc S T t = nI q) : ∀ i, i ≤ w → CurR (wrC G r S T i) 0 (wrN N r S T i) n k W P mo ow vx := by
  intro i
  induction i with
  | zero => intro _; exact h
  | succ i ih =>
    intro hi
    obtain ⟨q, q1, q2⟩ := hq i (by omega)
    rw [wrC, wrN, q2, nI_clamp (by omega)]
    exact cur_w (ih (by omega)) hr q1
/-- a new reader -/
theorem cur_open {x : Int32} (h : CurR G 0 N n k W P mo ow vx) (hn : n < 40) (h8 : opn N n < 8) {N' : Nat → Int32} (e2 : N' 2 = nI (n + 1)) (e0 : N' (9 + 20 * n + 0) = nI k) (e1 : N' (9 + 20 * n + 1) = x) (ez : ∀ f, 2 ≤ f → f < 20 → N' (9 + 20 * n + f) = 0) (eo : ∀ f, f ≠ 2 → f < 9 + 20 * n ∨ 9 + 20 * n + 20 ≤ f → N' f = N f) : CurR (adR G n x) 0 N' (n + 1) k W P mo (fun r => if r = n then k else ow r) vx := by
  have hk4 : k ≤ 40 := by have := h.2.1.1; omega
  have hW := h.2.1.2.2
  obtain ⟨s1, s2, s3, s4, s5, s6, s7, s8, s9, s10, s11, s12⟩ := cu_sc h.1
  obtain ⟨a1, a2, a3, a4, a5, a6⟩ := cu_ab h.1
  have ho : ∀ q, q ≠ rN 0 n → q ≠ sB 0 → adR G n x q = G q := fun q h1 h2 => by
    unfold adR
    rw [gs_other h2, gs_other h1, gs_other h1, gs_other h1, gs_other h1, gs_other h1, gs_other h1, gs_other h1, gs_other h1]
  have hs : ∀ f, f ≠ 6 → adR G n x (sB 0) f = G (sB 0) f := fun f hf => by
    have z : sB 0 ≠ rN 0 n := by unfold sB rN; omega
    unfold adR
    rw [gs_row hf, gs_other z, gs_other z, gs_other z, gs_other z, gs_other z, gs_other z, gs_other z, gs_other z]
  have hs6 : adR G n x (sB 0) 6 = nI (n + 1) := by unfold adR; rw [gs_up, upd_eq]
  have hrow : adR G n x (rN 0 n) = upd (upd (upd (upd (upd (upd (upd (upd (G (rN 0 n)) 1 0) 2 (G (sB 0) 3)) 3 x) 4 0) 5 0) 6 0) 7 0) 8 0 := by
    unfold adR
    rw [gs_other (show rN 0 n ≠ sB 0 by unfold sB rN; omega), gs_up, gs_up, gs_up, gs_up, gs_up, gs_up, gs_up, gs_up]
  have hst : ∀ r, r < n → ∀ f, f < 20 → N' (9 + 20 * r + f) = N (9 + 20 * r + f) := fun r hr f hf => eo _ (by omega) (by omega)
  have hop : opn N' (n + 1) = opn N n + 1 := by
    show opn N' n + (if N' (9 + 20 * n + 2) = 0 then 1 else 0) = _
    rw [if_pos (ez 2 (by omega) (by omega)), opn_cg (fun r hr => hst r hr 2 (by omega))]
  refine ⟨⟨⟨by rw [hs 3 (by omega)]; exact s1, by rw [hs 4 (by omega), eo 1 (by omega) (by omega)]; exact s2, by rw [hs 5 (by omega), eo 4 (by omega) (by omega)]; exact s3, hs6, e2, by rw [hs 7 (by omega)]; exact s6, by rw [eo 6 (by omega) (by omega)]; exact s7, by rw [hs 8 (by omega), eo 3 (by omega) (by omega)]; exact s8, by rw [hs 9 (by omega), eo 7 (by omega) (by omega)]; exact s9, by rw [eo 7 (by omega) (by omega)]; exact s10, by rw [eo 8 (by omega) (by omega)]; exact s11, ?_⟩, fun r hr => ?_, fun q hq => ?_, fun c hc => ?_, ?_, ?_⟩, ?_, ?_⟩
  · rw [eo 5 (by omega) (by omega), s12, sm]
    rw [ez 7 (by omega) (by omega), Int32.add_zero]
    exact sm_congr (fun r hr => (hst r hr 7 (by omega)).symm)
  · by_cases z : r = n
    · subst z
      rw [hrow, ho (rW 0 r) (by unfold rW rN; omega) (by unfold rW sB; omega)]
      refine ⟨?_, ?_, ?_, ?_, ?_, ?_, ?_, ?_, Or.inl (ez 6 (by omega) (by omega)), by rw [ez 4 (by omega) (by omega)]; exact sml_0 12, ⟨0, by omega, ez 5 (by omega) (by omega)⟩, fun c hc hh => ?_⟩
      · rw [ez 2 (by omega) (by omega), upd_ne (by omega), upd_ne (by omega), upd_ne (by omega), upd_ne (by omega), upd_ne (by omega), upd_ne (by omega), upd_ne (by omega), upd_eq]
      · rw [e0, upd_ne (by omega), upd_ne (by omega), upd_ne (by omega), upd_ne (by omega), upd_ne (by omega), upd_ne (by omega), upd_eq]; exact s1
      · rw [e1, upd_ne (by omega), upd_ne (by omega), upd_ne (by omega), upd_ne (by omega), upd_ne (by omega), upd_eq]
      · rw [ez 3 (by omega) (by omega), upd_ne (by omega), upd_ne (by omega), upd_ne (by omega), upd_ne (by omega), upd_eq]
      · rw [ez 4 (by omega) (by omega), upd_ne (by omega), upd_ne (by omega), upd_ne (by omega), upd_eq]
      · rw [ez 5 (by omega) (by omega), upd_ne (by omega), upd_ne (by omega), upd_eq]
      · rw [ez 7 (by omega) (by omega), upd_ne (by omega), upd_eq]
      · rw [ez 6 (by omega) (by omega), upd_eq]
      · rw [ez 4 (by omega) (by omega)] at hh; exact absurd hh (hw_0 (by omega))
    · exact RRR_congr (hst r (by omega)) (ho _ (by unfold rN; omega) (by unfold rN sB; omega)) (ho _ (by unfold rN rW; omega) (by unfold rW sB; omega)) (cu_rd h.1 (by omega))
  · rw [ho (mC 0 q) (by unfold mC rN; omega) (by unfold mC sB; omega)]
    exact CMR_congr (fun f f1 _ => eo f (by omega) (by omega)) (by omega) (cu_cm h.1 hq)
  · show adR G n x (cB 0 c) 2 = _ ∧ ∀ p, p < P c → adR G n x (cM 0 c) p = _
    rw [ho (cB 0 c) (by unfold cB rN; omega) (by unfold cB sB; omega), ho (cM 0 c) (by unfold cM rN; omega) (by unfold cM sB; omega)]
    exact cu_cl h.1 hc
  · refine ⟨a1, by rw [eo 0 (by omega) (by omega)]; exact a2, a3, by omega, fun r hr => ?_, fun r hr ho2 c hc => ?_⟩
    · by_cases z : r = n
      · subst z; dsimp only; rw [if_pos rfl]; exact ⟨e0, Nat.le_refl k⟩
      · dsimp only; rw [if_neg z, hst r (by omega) 0 (by omega)]; exact a5 r (by omega)
    · by_cases z : r = n
      · subst z; dsimp only; rw [if_pos rfl]
        exact ABS_m (cu_ab h.1) hc (by have := cu_1 h.1 hc; omega)
      · dsimp only; rw [if_neg z]
        exact a6 r (by omega) (by rw [← hst r (by omega) 2 (by omega)]; exact ho2) c hc
  · exact TbS_cg (cu_tb h.1) (by omega) (fun f f1 _ => eo f (by omega) (by omega)) (fun c p hc hp => by rw [ho _ (by unfold cV rN; omega) (by unfold cV sB; omega)])
  · rw [hop]
    have := h.2.1.1
    exact ⟨by omega, by omega, hW⟩
  · intro c p hc hp
    rcases h.2.2 c p hc hp with z | ⟨r, hr, z1, z2⟩
    · exact Or.inl z
    · refine Or.inr ⟨r, by omega, by rw [hst r hr 2 (by omega)]; exact z1, ?_⟩
      dsimp only; rw [if_neg (by omega)]; exact z2
end LEV
theorem act_re2 {G Gr G1 G2 : Nat → Nat → Int32} {L : Nat} {pi : Nat → Nat} {n k W : Nat} {P : Nat → Nat} {mo : Nat → Nat → Nat} {ow : Nat → Nat} {vx : Nat → Nat → Nat} (hS : SnpR G ∧ TxtR G) (hH : HisR G L pi) (hC : CurR G 0 (G 1) n k W P mo ow vx) (hr : rcR G Gr pi L n k) (h1 : ∀ q, q ≠ 0 → q ≠ 1 → q ≠ 2 → q ≠ 4 → q ≠ 5 → q < 14 ∨ 175 ≤ q → G1 q = Gr q) (h10 : ∀ f, f = 3 ∨ f = 5 → G1 0 f = Gr 0 f) (h11 : ∀ f, f < 1201 → G1 1 f = Gr 1 f) (h12 : ∀ f, f < 6005 → G1 2 f = Gr 2 f) (h2 : ∀ q, q ≠ 1 → q ≠ 6 → G2 q = recM G1 L q) (hE : CurE G1 0 (G2 1)) : REL G2 := by
  refine ⟨curE_f hE (fun o ho => ?_) (fun _ _ => rfl), rec_hi2 hS hH hC hr h1 h10 h11 h12 h2⟩
  rw [h2 _ (by unfold sB; omega) (by unfold sB; omega), recM_o (by unfold sB; omega) (by unfold sB; omega)]
/-- a text's traces do not count -/
theorem rel_tf {G G1 G2 : Nat → Nat → Int32} (h : REL G) (h1 : tfR G G1) (h2 : frF G1 G2) : REL G2 := by
  have hb : ∀ q, q ≠ 0 → q ≠ 4 → q ≠ 5 → q ≠ 10 → q ≠ 12 → q ≠ 13 → G2 q = G q := fun q q0 q4 q5 q10 q12 q13 => (h2.1 q q0 q4 q5).trans (h1.1 q q10 q12 q13)
  have h0 : ∀ f, f ≠ 6 → f ≠ 7 → f ≠ 8 → G2 0 f = G 0 f := fun f f6 f7 f8 => by rw [h2.2 f f6 f7 f8, h1.1 0 (by omega) (by omega) (by omega)]
  have hB : ∀ q, 14 ≤ q → G2 q = G q := fun q hq => hb q (by omega) (by omega) (by omega) (by omega) (by omega) (by omega)
  have hl : ∀ q, q = 1 ∨ q = 2 ∨ q = 3 ∨ q = 7 ∨ q = 8 ∨ q = 9 ∨ q = 11 → G2 q = G q := fun q hq => hb q (by omega) (by omega) (by omega) (by omega) (by omega) (by omega)
  refine ⟨curE_f h.1 (fun o ho => hB _ (by unfold sB; omega)) (fun f hf => by rw [hl 1 (by omega)]), rst_f h.2 (fun q hq => hB q (by omega)) (fun f hf => by rw [hl 2 (by omega)]) (hl 3 (by omega)) (hl 11 (by omega)) (hl 9 (by omega)) (by rw [hl 8 (by omega)]) (by rw [hl 7 (by omega)]) ?_ (h0 2 (by omega) (by omega) (by omega)) (h0 3 (by omega) (by omega) (by omega)) (h0 5 (by omega) (by omega) (by omega))⟩
  rw [h2.1 10 (by omega) (by omega) (by omega)]
  exact h1.2
theorem mxF_all {C : Nat → Int32} {w : Nat} (h : ∀ t, t < w → C t ≤ nI 11) : mxF C w ≤ nI 11 := by
  induction w with
  | zero => rw [mxF]; decide
  | succ w ih =>
    rw [mxF]
    split
    · exact h w (by omega)
    · exact ih (fun t ht => h t (by omega))

set_option maxHeartbeats 1000000 in
theorem lw_open (l : Launch) {D : va_G} {τ : Nat → ClassId} {ad : Nat → Nat} (hI : kInj ad) {G : Nat → Nat → Int32} (hR : REL G) {y : Int32} : kM l yX6_open cX6_open 2 (some .int) { frames := 4, cells := 0, slots := 0, locals := 104 } D τ ad [.ref (ad 7), .int y] G (fun v G1 => kM l yX7_open cX7_open 4 (some .int) { frames := 2, cells := 0, slots := 0, locals := 45 } D τ ad [.ref (ad 0), .int y] G1 (fun w G2 => w = v ∧ REL G2)) := by
  have hR0 := hR
  obtain ⟨⟨n, k, W, P, mo, ow, vx, hC⟩, ⟨L, pi, hH⟩, hS⟩ := hR
  obtain ⟨p1, p2, p3, p4, ⟨p5, p6, p7, p8⟩, p9, p10, p11, ⟨p12, p13, p14⟩, p15, p16, p17, p18, p19⟩ := pre_of hC hH
  refine kM_mono (c_X6_open l hI p1 p2 p3 p4 p5 p6 p7 p8 p9 p10) (fun v G1 hc => ?_)
  have ref := fun (G1 : Nat → Nat → Int32) (h : ∀ q, q < 7 → G1 q = G q) (R' : Int32 → (Nat → Nat → Int32) → Prop) hh => kM_mono (D := D) (τ := τ) (R' := R') (c_X7_open l hI (G := G1) (y := y) (n := n) (L := L) (by rw [h 1 (by omega)]; exact p15) p6 (by rw [h 0 (by omega)]; exact p18) p2) hh
  rw [an_states hC.1] at hc
  by_cases z1 : nI 0 ≤ y ∧ y ≤ nI 9999
  · rw [if_pos z1] at hc
    have h8 : opn (G 1) n ≤ 8 := hC.2.1.2.1
    have hz : (n = 40 ∨ 8 ≤ cn (fun r => if G 1 (9 + 20 * r + 2) = nI 0 then 1 else 0) n) ↔ (cn (fun r => if G 1 (9 + 20 * r + 2) = nI 0 then 1 else 0) n = 8 ∨ n = 40) := by
      have e : cn (fun r => if G 1 (9 + 20 * r + 2) = nI 0 then 1 else 0) n = opn (G 1) n := rfl
      rw [e]; omega
    by_cases z2 : n = 40 ∨ 8 ≤ cn (fun r => if G 1 (9 + 20 * r + 2) = nI 0 then 1 else 0) n
    · rw [if_pos z2] at hc
      obtain ⟨rfl, rfl⟩ := hc
      refine ref _ (fun _ _ => rfl) _ (fun w G2 hm => ?_)
      rw [if_pos z1, if_pos (hz.mp z2)] at hm
      exact ⟨hm.1, by rw [hm.2]; exact hR0⟩
    · rw [if_neg z2] at hc
      have hlt : n < 40 ∧ opn (G 1) n < 8 := by
        have e : cn (fun r => if G 1 (9 + 20 * r + 2) = nI 0 then 1 else 0) n = opn (G 1) n := rfl
        rw [e] at z2; omega
      obtain ⟨Gr, g1, rfl, rfl⟩ := hc
      have e0 := rcR_0 g1 p2 p4
      have hfr0 : ∀ q, q ≠ rN 0 n → q ≠ sB 0 → adR Gr n y q = Gr q := fun q h1 h2 => by
        unfold adR
        rw [gs_other h2, gs_other h1, gs_other h1, gs_other h1, gs_other h1, gs_other h1, gs_other h1, gs_other h1, gs_other h1]
      have hfr : ∀ q, q < 7 → adR Gr n y q = G q := fun q hq => by rw [hfr0 q (by unfold rN; omega) (by unfold sB; omega)]; exact e0 q (by omega) (by omega) (by omega)
      refine ref _ hfr _ (fun w G2 hm => ?_)
      rw [hfr 1 (by omega), if_pos z1, if_neg (fun z => z2 (hz.mpr z))] at hm
      obtain ⟨rfl, rfl⟩ := hm
      have hCr := cur_r hC g1 p2 p4
      have hz1 : ∀ f, zrF (gs (recM (adR Gr n y) L) 1 2 (nI (n + 1))) n 20 1 f = if 9 + 20 * n ≤ f ∧ f < 9 + 20 * n + 20 then nI 0 else upd (G 1) 2 (nI (n + 1)) f := fun f => by
        unfold zrF
        rw [gs_up, recM_1, hfr 1 (by omega)]
        by_cases q : 9 + 20 * n ≤ f ∧ f < 9 + 20 * n + 20
        · rw [if_pos ⟨rfl, q⟩, if_pos q]
        · rw [if_neg (fun w => q w.2), if_neg q]
      refine ⟨rfl, act_rel (G1 := adR Gr n y) hS hH hC g1 (fun q hq => hfr0 q (by unfold rN; omega) (by unfold sB; omega)) (fun q q1 _ => ?_) ⟨n + 1, k, W, P, mo, fun r => if r = n then k else ow r, vx, ?_⟩⟩
      · rw [gs_other q1, gs_other q1]
        funext f
        unfold zrF
        rw [if_neg (fun w => q1 w.1), gs_other q1]
      · refine cur_open hCr hlt.1 hlt.2 ?_ ?_ ?_ (fun f f1 f2 => ?_) (fun f f1 f2 => ?_)
        · rw [gs_up, gs_up, upd_ne (by omega), upd_ne (by omega), hz1, if_neg (by omega), upd_eq]
        · rw [gs_up, gs_up, upd_ne (by omega), upd_eq]; exact p17
        · rw [gs_up, upd_eq]
        · rw [gs_up, gs_up, upd_ne (by omega), upd_ne (by omega), hz1, if_pos (by omega)]; rfl
        · rw [gs_up, gs_up, upd_ne (by omega), upd_ne (by omega), hz1, if_neg (by omega), upd_ne f1]
  · rw [if_neg z1] at hc
    obtain ⟨rfl, rfl⟩ := hc
    refine ref _ (fun _ _ => rfl) _ (fun w G2 hm => ?_)
    rw [if_neg z1] at hm
    exact ⟨hm.1, by rw [hm.2]; exact hR0⟩

set_option maxHeartbeats 1000000 in
theorem lw_close (l : Launch) {D : va_G} {τ : Nat → ClassId} {ad : Nat → Nat} (hI : kInj ad) {G : Nat → Nat → Int32} (hR : REL G) {x : Int32} : kM l yX6_close cX6_close 3 (some .int) { frames := 4, cells := 0, slots := 0, locals := 104 } D τ ad [.ref (ad 7), .int x] G (fun v G1 => kM l yX7_close cX7_close 2 (some .int) { frames := 5, cells := 0, slots := 0, locals := 117 } D τ ad [.ref (ad 0), .int x] G1 (fun w G2 => w = v ∧ REL G2)) := by
  have hR0 := hR
  obtain ⟨⟨n, k, W, P, mo, ow, vx, hC⟩, ⟨L, pi, hH⟩, hS⟩ := hR
  obtain ⟨p1, p2, p3, p4, ⟨p5, p6, p7, p8⟩, p9, p10, p11, ⟨p12, p13, p14⟩, p15, p16, p17, p18, p19⟩ := pre_of hC hH
  refine kM_mono (c_X6_close l hI p1 p2 p3 p4 p5 p6 p7 p8 p9 p10 (cu_hp hC.1)) (fun v G1 hc => ?_)
  have ref := fun (G1 : Nat → Nat → Int32) (h : ∀ q, q < 7 → G1 q = G q) (R' : Int32 → (Nat → Nat → Int32) → Prop) hh => kM_mono (D := D) (τ := τ) (R' := R') (c_X7_close l hI (G := G1) (x := x) (Wn := W) (n := n) (L := L) (by rw [h 1 (by omega)]; exact p12) p13 (by omega) (by rw [h 1 (by omega)]; exact p15) p6 (by rw [h 0 (by omega)]; exact p18) p2) hh
  rcases rdP_yn hc with ⟨r, r1, r2, hc⟩ | ⟨r1, rfl, rfl⟩
  · obtain ⟨c1, c2, c3, c4, c5, c6, c7, c8, c9, c10, c11, c12⟩ := cu_rd hC.1 r1
    try dsimp only at hc
    rw [c1] at hc
    by_cases z2 : G 1 (9 + 20 * r + 2) = 0
    · rw [if_pos z2] at hc
      obtain ⟨Gr, g1, hc⟩ := hc
      have e0 := rcR_0 g1 p2 p4
      have hCr := cur_r hC g1 p2 p4
      have hL0 := cur_leave (x := nI 2) hCr r1 (by decide)
      have hop := opn_leave (x := nI 2) r1 z2 (by decide)
      have hbb := hC.2.1
      have hV : (rmD (upd (G 1) (9 + 20 * r + 2) (nI 2)) n W W).2.1 ≤ W := by
        obtain ⟨P', mo', vx', -, -, -, -, a5⟩ := rv_all hL0 (by omega) p8 hc
        exact a5
      obtain ⟨⟨P', mo', vx', hC2⟩, hv, -⟩ := cur_rm hL0 ⟨by omega, by omega⟩ (by omega) hc (by omega)
      have hG1 : ∀ q, q < 14 ∨ 175 ≤ q → G1 q = Gr q := fun q hq => by
        rw [hc.2.2.2.2 q (by unfold sB; omega) (fun c hc => ⟨by unfold cB; omega, by unfold cV; omega, by unfold cM; omega⟩), gs_other (by unfold rN; omega)]
      have hfr : ∀ q, q < 7 → G1 q = G q := fun q hq => by rw [hG1 q (by omega)]; exact e0 q (by omega) (by omega) (by omega)
      refine ref _ hfr _ (fun w G2 hm => ?_)
      have hm := hm.1 r r1 r2
      try dsimp only at hm
      rw [hfr 1 (by omega), if_pos z2] at hm
      obtain ⟨rfl, rfl⟩ := hm
      refine ⟨hv.symm, act_rel hS hH hC g1 hG1 (fun q q1 _ => by rw [rw1_o q1, gs_other q1]) (by rw [rw1_1]; exact ⟨n, k, _, P', mo', ow, vx', hC2⟩)⟩
    · rw [if_neg z2] at hc
      obtain ⟨rfl, rfl⟩ := hc
      refine ref _ (fun _ _ => rfl) _ (fun w G2 hm => ?_)
      have hm := hm.1 r r1 r2
      try dsimp only at hm
      rw [if_neg z2] at hm
      exact ⟨hm.1, by rw [hm.2]; exact hR0⟩
  · refine ref _ (fun _ _ => rfl) _ (fun w G2 hm => ?_)
    have hm := hm.2 r1
    exact ⟨hm.1, by rw [hm.2]; exact hR0⟩

set_option maxHeartbeats 1000000 in
theorem lw_readWrites (l : Launch) {D : va_G} {τ : Nat → ClassId} {ad : Nat → Nat} (hI : kInj ad) {G : Nat → Nat → Int32} (hR : REL G) {x : Int32} : kM l yX6_readWrites cX6_readWrites 5 (some .int) { frames := 4, cells := 0, slots := 0, locals := 104 } D τ ad [.ref (ad 7), .int x] G (fun v G1 => kM l yX7_readWrites cX7_readWrites 4 (some .int) { frames := 5, cells := 0, slots := 0, locals := 107 } D τ ad [.ref (ad 0), .int x] G1 (fun w G2 => w = v ∧ REL G2)) := by
  have hR0 := hR
  obtain ⟨⟨n, k, W, P, mo, ow, vx, hC⟩, ⟨L, pi, hH⟩, hS⟩ := hR
  obtain ⟨p1, p2, p3, p4, ⟨p5, p6, p7, p8⟩, p9, p10, p11, ⟨p12, p13, p14⟩, p15, p16, p17, p18, p19⟩ := pre_of hC hH
  obtain ⟨hSn, T, t1, t2, t3, t4⟩ := hS
  refine kM_mono (c_X6_readWrites l hI p1 p2 p3 p4 p5 p6 p7 p8 p9 p10 t2 t1) (fun v G1 hc => ?_)
  have ref := fun (G1 : Nat → Nat → Int32) (h : ∀ q, q < 7 → G1 q = G q) (R' : Int32 → (Nat → Nat → Int32) → Prop) hh => kM_mono (D := D) (τ := τ) (R' := R') (c_X7_readWrites l hI (G := G1) (x := x) (T := T) (n := n) (L := L) (by rw [h 0 (by omega)]; exact t3) t1 (by rw [h 1 (by omega)]; exact p15) p6 (by rw [h 0 (by omega)]; exact p18) p2) hh
  rcases rdP_yn hc with ⟨r, r1, r2, hc⟩ | ⟨r1, rfl, rfl⟩
  · try dsimp only at hc
    obtain ⟨c1, c2, c3, c4, c5, c6, c7, c8, c9, c10, c11, c12⟩ := cu_rd hC.1 r1
    rw [c1] at hc
    have htq : ∀ {A : Nat → Nat → Int32}, tfR G A → ∀ q, q < 7 → A q = G q := fun hA q hq => hA.1 q (by omega) (by omega) (by omega)
    by_cases z1 : pR (G 11) T 16 0 = -1
    · rw [if_pos z1] at hc
      have hall : nI 12 ≤ mxF (fun t => wc (G 11) T t) (pW (G 11) T 16 0) ↔ ¬ ∀ t, t < (pW (G 11) T 16 0) → nI 0 ≤ wc (G 11) T t ∧ wc (G 11) T t ≤ nI 11 := by
        constructor
        · intro h w
          exact absurd (Int32.le_trans h (mxF_all (fun t ht => (w t ht).2))) (by decide)
        · intro h
          refine Classical.byContradiction (fun w => h (fun t ht => ?_))
          obtain ⟨q, q1, q2⟩ := mxF_cell (C := fun t => wc (G 11) T t) ht w wc_0
          have q2 : wc (G 11) T t = nI q := q2
          rw [q2]
          exact ⟨nI_le (by omega) (by omega), nI_le (by omega) (by omega)⟩
      by_cases z2 : nI 12 ≤ mxF (fun t => wc (G 11) T t) (pW (G 11) T 16 0)
      · rw [if_pos z2] at hc
        obtain ⟨rfl, htf⟩ := hc
        refine ref _ (htq htf) _ (fun w G2 hm => ?_)
        have hm := hm.1 r r1 r2
        try dsimp only at hm
        rw [htq htf 3 (by omega), ← t4, if_pos z1, if_neg (hall.mp z2)] at hm
        exact ⟨hm.1, rel_tf hR0 htf hm.2⟩
      · rw [if_neg z2] at hc
        have hall2 := Classical.not_not.mp (fun w => z2 (hall.mpr w))
        by_cases z3 : G 1 (9 + 20 * r + 2) = 0
        · rw [if_pos z3] at hc
          obtain ⟨Gf, Gr, g0, g1, rfl, rfl⟩ := hc
          have hf : ∀ q, q ≠ 10 → q ≠ 12 → q ≠ 13 → Gf q = G q := g0.1
          have hCf : CurR Gf 0 (Gf 1) n k W P mo ow vx := by
            rw [hf 1 (by omega) (by omega) (by omega)]
            exact cur_G hC (fun o ho => hf _ (by unfold sB; omega) (by unfold sB; omega) (by unfold sB; omega))
          have hHf : HisR Gf L pi := his_f hH (fun q hq => hf q (by omega) (by omega) (by omega)) (fun f _ => by rw [hf 2 (by omega) (by omega) (by omega)]) (hf 9 (by omega) (by omega) (by omega)) (by rw [hf 8 (by omega) (by omega) (by omega)]) (by rw [hf 0 (by omega) (by omega) (by omega)])
          have hSf : SnpR Gf ∧ TxtR Gf := ⟨snp_f hSn (fun q hq _ => hf q (by omega) (by omega) (by omega)) (fun f _ _ => by rw [hf 2 (by omega) (by omega) (by omega)]) (by rw [hf 7 (by omega) (by omega) (by omega)]) (by rw [hf 0 (by omega) (by omega) (by omega)]), T, t1, by rw [g0.2]; exact t2, by rw [hf 0 (by omega) (by omega) (by omega)]; exact t3, by rw [hf 11 (by omega) (by omega) (by omega), hf 3 (by omega) (by omega) (by omega)]; exact t4⟩
          have e0 := rcR_0 g1 p2 p4
          have hCr := cur_r hCf g1 p2 p4
          have hw1 : ∀ q, q < 14 ∨ 175 ≤ q → wrC Gr r (G 11) T (pW (G 11) T 16 0) q = Gr q := fun q hq => wrC_o (by unfold rW; omega) (by unfold rN; omega) _
          have hfr : ∀ q, q < 7 → wrC Gr r (G 11) T (pW (G 11) T 16 0) q = G q := fun q hq => by rw [hw1 q (by omega), e0 q (by omega) (by omega) (by omega), hf q (by omega) (by omega) (by omega)]
          refine ref _ hfr _ (fun w G2 hm => ?_)
          have hm := hm.1 r r1 r2
          try dsimp only at hm
          rw [hfr 3 (by omega), ← t4, hfr 1 (by omega), if_pos z1, if_pos hall2, if_pos z3] at hm
          obtain ⟨rfl, Gm, m1, rfl⟩ := hm
          have hcw := cur_ws (S := G 11) (T := T) hCr r1 (fun t ht => mxF_cell (C := fun t => wc (G 11) T t) ht z2 wc_0) (pW (G 11) T 16 0) (Nat.le_refl _)
          rw [hf 1 (by omega) (by omega) (by omega)] at hcw
          obtain ⟨d1, d2, d3, d4, d5, d6, d7, d8, d9, d10, d11, d12⟩ := cu_rd hcw.1 r1
          refine ⟨by rw [d5]; exact (bc_ones d10).symm, act_re2 (G1 := Gm) hSf hHf hCf g1 (fun q q0 _ _ q4 q5 hq => (m1.1 q q0 q4 q5).trans (hw1 q hq)) (fun f hf2 => (m1.2 f (by omega) (by omega) (by omega)).trans (by rw [hw1 0 (by omega)])) (fun f _ => by rw [m1.1 1 (by omega) (by omega) (by omega), hw1 1 (by omega)]) (fun f _ => by rw [m1.1 2 (by omega) (by omega) (by omega), hw1 2 (by omega)]) (fun q q1 _ => rw1_o q1) ⟨n, k, W, P, mo, ow, vx, ?_⟩⟩
          rw [rw1_1]
          exact cur_G hcw (fun o ho => m1.1 _ (by unfold sB; omega) (by unfold sB; omega) (by unfold sB; omega))
        · rw [if_neg z3] at hc
          obtain ⟨rfl, htf⟩ := hc
          refine ref _ (htq htf) _ (fun w G2 hm => ?_)
          have hm := hm.1 r r1 r2
          try dsimp only at hm
          rw [htq htf 3 (by omega), ← t4, htq htf 1 (by omega), if_pos z1, if_pos hall2, if_neg z3] at hm
          exact ⟨hm.1, rel_tf hR0 htf hm.2⟩
    · rw [if_neg z1] at hc
      obtain ⟨rfl, htf⟩ := hc
      refine ref _ (htq htf) _ (fun w G2 hm => ?_)
      have hm := hm.1 r r1 r2
      try dsimp only at hm
      rw [htq htf 3 (by omega), ← t4, if_neg z1] at hm
      exact ⟨hm.1, rel_tf hR0 htf hm.2⟩
  · refine ref _ (fun _ _ => rfl) _ (fun w G2 hm => ?_)
    have hm := hm.2 r1
    exact ⟨hm.1, by rw [hm.2]; exact hR0⟩
