/-! A commit, the class and the reference, one behind the other. -/
section LAN2
variable {G G1 : Nat → Nat → Int32} {j : Nat} {N : Nat → Int32} {n k W r : Nat} {P : Nat → Nat} {mo : Nat → Nat → Nat} {ow : Nat → Nat} {vx : Nat → Nat → Nat}
theorem cu0_P {P' : Nat → Nat} (h : Cur0 G j N n k W P mo ow vx) (hP : ∀ c, c < 12 → P' c = P c) : Cur0 G j N n k W P' mo ow vx := by
  obtain ⟨h1, h2, h3, h4, h5, h6⟩ := h
  refine ⟨h1, h2, h3, fun c hc => by rw [hP c hc]; exact h4 c hc, ?_, ?_⟩
  · obtain ⟨a1, a2, a3, a4, a5, a6⟩ := h5
    exact ⟨fun c hc => by rw [hP c hc]; exact a1 c hc, a2, a3, a4, a5, fun r hr ho c hc => by rw [hP c hc]; exact a6 r hr ho c hc⟩
  · obtain ⟨t1, t2⟩ := h6
    refine ⟨fun c p hc hp hs => t1 c p hc (by rw [← hP c hc]; exact hp) hs, fun v hv => ?_⟩
    obtain ⟨c, p, q1, q2, q3, q4⟩ := t2 v hv
    exact ⟨c, p, q1, by rw [hP c q1]; exact q2, q3, q4⟩
/-- landing changes the state's own block alone -/
theorem LNR_f (hk : k < 40) (hr : r < 40) (h : LNR G G1 0 k r k P) : ∀ q, q < 14 ∨ 175 ≤ q → G1 q = G q := by
  intro q hq
  unfold LNR at h
  by_cases z : G (rN 0 r) 5 = 0
  · rw [if_pos z] at h; rw [h]
  · rw [if_neg z] at h
    obtain ⟨Ga, a1, a2⟩ := h
    rw [a2.2 q (fun c hc => ⟨by unfold cB; omega, by unfold cV; omega, by unfold cM; omega⟩), gs_other (by unfold sB; omega)]
    exact a1.1 q (by unfold mC; omega) (by unfold sB; omega)
/-- the class's block behind a commit that writes -/
theorem land_cur (h : CurR G 0 N n k W P mo ow vx) (hr : r < n) (hk : k < 40) (h0 : ¬ N (9 + 20 * r + 4) = 0) (hl : LNR G G1 0 k r k P) : Cur0 (gs G1 (rN 0 r) 1 (nI 1)) 0 (cdN N r k k W).1 n (k + 1) (cdN N r k k W).2 (PL (N (9 + 20 * r + 4)) P) (moL (N (9 + 20 * r + 4)) k mo) ow (vxL (N (9 + 20 * r + 4)) W vx) := by
  have hW := h.2.1.2.2
  have hn4 := (cu_ab h.1).2.2.2.1
  obtain ⟨l1, l2, l3, l4, l5, l6, l7, l8⟩ := land_N h hr hk h0
  obtain ⟨c1, c2, c3, c4, c5, c6, c7, c8, c9, c10, c11, c12⟩ := cu_rd h.1 hr
  have hL0 := cur_leave (x := nI 1) h hr (by decide)
  unfold LNR at hl
  rw [if_neg (by rw [c5]; exact h0)] at hl
  obtain ⟨Ga, ⟨n1, n2, n3, n4, n5, n6, n7, n8, n9⟩, w1, w2⟩ := hl
  have hGa : ∀ q, q ≠ mC 0 k → q ≠ sB 0 → gs Ga (sB 0) 3 (nI (k + 1)) q = G q := fun q q1 q2 => by rw [gs_other q2]; exact n1 q q1 q2
  have hG1 : ∀ q, q ≠ mC 0 k → q ≠ sB 0 → (∀ c, c < 12 → q ≠ cB 0 c ∧ q ≠ cV 0 c ∧ q ≠ cM 0 c) → G1 q = G q := fun q q1 q2 q3 => by rw [w2 q q3]; exact hGa q q1 q2
  have hs : ∀ f, f ≠ 3 → f ≠ 7 → gs G1 (rN 0 r) 1 (nI 1) (sB 0) f = G (sB 0) f := fun f f3 f7 => by
    rw [gs_other (by unfold sB rN; omega), w2 (sB 0) (fun c hc => ⟨by unfold sB cB; omega, by unfold sB cV; omega, by unfold sB cM; omega⟩), gs_row f3]
    exact n2 f f7
  have hs3 : gs G1 (rN 0 r) 1 (nI 1) (sB 0) 3 = nI (k + 1) := by
    rw [gs_other (by unfold sB rN; omega), w2 (sB 0) (fun c hc => ⟨by unfold sB cB; omega, by unfold sB cV; omega, by unfold sB cM; omega⟩), gs_up, upd_eq]
  have hs7 : gs G1 (rN 0 r) 1 (nI 1) (sB 0) 7 = nI (k + 1) := by
    rw [gs_other (by unfold sB rN; omega), w2 (sB 0) (fun c hc => ⟨by unfold sB cB; omega, by unfold sB cV; omega, by unfold sB cM; omega⟩), gs_row (by omega)]
    exact n3
  obtain ⟨s1, s2, s3, s4, s5, s6, s7, s8, s9, s10, s11, s12⟩ := cu_sc hL0
  have hrest : ∀ f, f ≠ 3 → f ≠ 7 → gs G1 (rN 0 r) 1 (nI 1) (sB 0) f = gs G (rN 0 r) 1 (nI 1) (sB 0) f := fun f f3 f7 => by rw [hs f f3 f7, gs_other (by unfold sB rN; omega)]
  have hNU : ∀ t, t < n → ∀ f, f < 20 → (cdN N r k k W).1 (9 + 20 * t + f) = upd N (9 + 20 * r + 2) (nI 1) (9 + 20 * t + f) := fun t ht f hf => l5 _ (by omega) (by omega) (by omega) (by omega)
  refine ⟨⟨hs3, by rw [hrest 4 (by omega) (by omega), l5 1 (by omega) (by omega) (by omega) (by omega)]; exact s2, by rw [hrest 5 (by omega) (by omega), l5 4 (by omega) (by omega) (by omega) (by omega)]; exact s3, by rw [hrest 6 (by omega) (by omega)]; exact s4, by rw [l5 2 (by omega) (by omega) (by omega) (by omega)]; exact s5, hs7, l6, by rw [hrest 8 (by omega) (by omega), l5 3 (by omega) (by omega) (by omega) (by omega)]; exact s8, by rw [hrest 9 (by omega) (by omega), l5 7 (by omega) (by omega) (by omega) (by omega)]; exact s9, by rw [l5 7 (by omega) (by omega) (by omega) (by omega)]; exact s10, l2, ?_⟩, fun t ht => ?_, fun q hq => ?_, fun c hc => ?_, l3, TbS_cg l4 (by rw [l1]; have : cw (N (9 + 20 * r + 4)) 12 ≤ 12 := cn_le (fun _ _ => by split <;> omega); omega) (fun _ _ _ => rfl) (fun c p hc hp => ?_)⟩
  · rw [l5 5 (by omega) (by omega) (by omega) (by omega), s12]
    exact sm_congr (fun t ht => (hNU t ht 7 (by omega)).symm)
  · refine RRR_congr (hNU t ht) ?_ ?_ (cu_rd hL0 ht)
    · by_cases z : t = r
      · subst z
        rw [gs_up, gs_up, hG1 _ (by unfold rN mC; omega) (by unfold rN sB; omega) (fun c hc => ⟨by unfold rN cB; omega, by unfold rN cV; omega, by unfold rN cM; omega⟩)]
      · rw [gs_other (by unfold rN; omega), gs_other (by unfold rN; omega), hG1 _ (by unfold rN mC; omega) (by unfold rN sB; omega) (fun c hc => ⟨by unfold rN cB; omega, by unfold rN cV; omega, by unfold rN cM; omega⟩)]
    · rw [gs_other (by unfold rN rW; omega), gs_other (by unfold rN rW; omega), hG1 _ (by unfold rW mC; omega) (by unfold rW sB; omega) (fun c hc => ⟨by unfold rW cB; omega, by unfold rW cV; omega, by unfold rW cM; omega⟩)]
  · have em : ∀ q, q < 40 → gs G1 (rN 0 r) 1 (nI 1) (mC 0 q) = Ga (mC 0 q) := fun q hq => by
      rw [gs_other (by unfold rN mC; omega), w2 (mC 0 q) (fun c hc => ⟨by unfold mC cB; omega, by unfold mC cV; omega, by unfold mC cM; omega⟩), gs_other (by unfold mC sB; omega)]
    rcases Nat.lt_or_ge q k with z | z
    · refine CMR_con2 (fun f f1 f2 => l8 f f1 (by omega)) ?_ (cu_cm h.1 z)
      rw [em q (by omega)]
      exact n1 _ (by unfold mC; omega) (by unfold mC sB; omega)
    · have e : q = k := by omega
      subst e
      rw [em q hk]
      have o1 := (cu_ab h.1).2.2.2.2.1 r hr
      refine ⟨fun f hf => ?_, ?_, ?_, ow r, o1.2, ?_⟩
      · rw [l7 f hf]
        rcases (show f = 0 ∨ f = 1 ∨ f = 2 ∨ f = 3 ∨ f = 4 by omega) with rfl | rfl | rfl | rfl | rfl
        · rw [if_pos rfl]; exact n4
        · rw [if_neg (by omega), if_pos rfl, n5]; exact c2
        · rw [if_neg (by omega), if_neg (by omega), if_pos rfl]; exact n6
        · rw [if_neg (by omega), if_neg (by omega), if_neg (by omega), if_pos rfl, n7]; exact c5
        · rw [if_neg (by omega), if_neg (by omega), if_neg (by omega), if_neg (by omega), n8]; exact c4
      · rw [n9]
        congr 1
        have e1 := cu_skew h.1 (by omega) hr
        unfold skN
        rw [← e1]
        refine cn_congr (fun c hc => ?_)
        unfold ssM swM
        rw [l7 1 (by omega), l7 2 (by omega), l7 3 (by omega), l7 4 (by omega), l8 (1001 + 5 * c + 1) (by omega) (by omega), l8 (1001 + 5 * c + 2) (by omega) (by omega), l8 (1001 + 5 * c + 3) (by omega) (by omega), l8 (1001 + 5 * c + 4) (by omega) (by omega), (cu_ab h.1).2.1, nI_add]
        rfl
      · rw [l7 2 (by omega)]; rfl
      · rw [l7 1 (by omega)]; exact o1.1
  · show gs G1 (rN 0 r) 1 (nI 1) (cB 0 c) 2 = _ ∧ ∀ p, p < PL (N (9 + 20 * r + 4)) P c → gs G1 (rN 0 r) 1 (nI 1) (cM 0 c) p = _
    rw [gs_other (by unfold cB rN; omega), gs_other (by unfold cM rN; omega)]
    obtain ⟨x1, x2⟩ := w1 c hc
    rw [hGa (rN 0 r) (by unfold rN mC; omega) (by unfold rN sB; omega), c5] at x1 x2
    obtain ⟨y1, y2⟩ := cu_cl h.1 hc
    unfold PL moL
    by_cases z : hw (N (9 + 20 * r + 4)) c
    · obtain ⟨d1, d2, d3, d4⟩ := x1 z
      rw [if_pos z]
      refine ⟨d1, fun p hp => ?_⟩
      rw [if_pos z]
      by_cases zp : p = 0
      · rw [if_pos zp, zp, d3, gs_up, upd_eq]
      · rw [if_neg zp]
        have := (d4 (p - 1) (by omega)).2
        rw [show p - 1 + 1 = p by omega] at this
        rw [this, hGa (cM 0 c) (by unfold cM mC; omega) (by unfold cM sB; omega)]
        exact y2 (p - 1) (by omega)
    · obtain ⟨d1, d2, d3⟩ := x2 z
      rw [if_neg z, d1, d3, hGa (cM 0 c) (by unfold cM mC; omega) (by unfold cM sB; omega), hGa (cB 0 c) (by unfold cB mC; omega) (by unfold cB sB; omega)]
      exact ⟨y1, fun p hp => by rw [if_neg z]; exact y2 p hp⟩
  · show gs G1 (rN 0 r) 1 (nI 1) (cV 0 c) p = _
    rw [gs_other (by unfold cV rN; omega)]
    obtain ⟨x1, x2⟩ := w1 c hc
    rw [hGa (rN 0 r) (by unfold rN mC; omega) (by unfold rN sB; omega), c5] at x1 x2
    unfold PL at hp
    unfold vaL
    by_cases z : hw (N (9 + 20 * r + 4)) c
    · obtain ⟨d1, d2, d3, d4⟩ := x1 z
      rw [if_pos z] at hp ⊢
      by_cases zp : p = 0
      · rw [if_pos zp, zp, d2, hGa (rW 0 r) (by unfold rW mC; omega) (by unfold rW sB; omega)]
        exact c12 c hc z
      · rw [if_neg zp]
        have := (d4 (p - 1) (by omega)).1
        rw [show p - 1 + 1 = p by omega] at this
        rw [this, hGa (cV 0 c) (by unfold cV mC; omega) (by unfold cV sB; omega)]
    · obtain ⟨d1, d2, d3⟩ := x2 z
      rw [if_neg z, d2, hGa (cV 0 c) (by unfold cV mC; omega) (by unfold cV sB; omega)]
theorem sml_m2 {x : Int32} (h : sml x 10) : sml (x &&& (-2)) 10 := by
  have key : ∀ a, a < 1024 → nI a &&& (-2) = nI (a - a % 2) := by decide +kernel
  obtain ⟨a, ha, rfl⟩ := h
  exact ⟨a - a % 2, by have : a < 1024 := ha; show a - a % 2 < 1024; omega, key a ha⟩
/-- the bits of a cell's places that stay behind a commit -/
def xcF (G : Nat → Nat → Int32) (n r : Nat) (P : Nat → Nat) (w : Int32) (c : Nat) : Int32 := if hw w c then so (psB G 0 c (P c) (nI r)) n else so (psB G 0 c (P c) (nI r)) n &&& (-2)
theorem xc_sml (h : CurR G 0 N n k W P mo ow vx) {w : Int32} {c : Nat} (hc : c < 12) : sml (xcF G n r P w c) 10 := by
  have hs : sml (so (psB G 0 c (P c) (nI r)) n) 10 := sml_so (by omega) (fun i hi => bi_sml h.1 hi hc)
  unfold xcF
  split
  · exact hs
  · exact sml_m2 hs
/-- the counts of what stays: the same -/
theorem full_c (h : CurR G 0 N n k W P mo ow vx) (hr : r < n) {N' : Nat → Int32} {P' : Nat → Nat} {mo' : Nat → Nat → Nat} {w : Int32} (hP : ∀ c, c < 12 → P' c = PL w P c) (hm : ∀ c, c < 12 → mo' c = moL w k mo c) (hst : ∀ t, t < n → N' (9 + 20 * t + 2) = upd N (9 + 20 * r + 2) (nI 1) (9 + 20 * t + 2)) {c : Nat} (hc : c < 12) :
    cn (fun p => if p = 0 ∨ cn (fun t => if N' (9 + 20 * t + 2) = 0 ∧ fq (mo' c) (ow t) (P' c) = p then 1 else 0) n ≠ 0 then 1 else 0) (P' c) = 1 + bcn (xcF G n r P w c) 10 := by
  have hn4 := (cu_ab h.1).2.2.2.1
  have h10 := cu_P10 h.1 hc
  have h1 := cu_1 h.1 hc
  have hso : ∀ p, p < 32 → (hw (so (psB G 0 c (P c) (nI r)) n) p ↔ ∃ i, i < n ∧ ¬ nI i = nI r ∧ SE N P mo ow i c p) := fun p hp => bi_so h.1 hc hp
  have hopen : ∀ t, t < n → (N' (9 + 20 * t + 2) = 0 ↔ ¬ nI t = nI r ∧ N (9 + 20 * t + 2) = 0) := fun t ht => by
    rw [hst t ht]
    by_cases z : t = r
    · subst z; rw [upd_eq]; exact ⟨fun w => absurd w (by decide), fun w => absurd rfl w.1⟩
    · rw [upd_ne (by omega)]
      exact ⟨fun w => ⟨fun q => z (nI_in50 (by omega) (by omega) q), w⟩, fun w => w.2⟩
  have hex : ∀ p, (cn (fun t => if N' (9 + 20 * t + 2) = 0 ∧ fq (mo' c) (ow t) (P' c) = p then 1 else 0) n ≠ 0) ↔ ∃ t, t < n ∧ N' (9 + 20 * t + 2) = 0 ∧ fq (mo' c) (ow t) (P' c) = p := fun p => by
    constructor
    · intro q
      obtain ⟨t, t1, t2⟩ := rm_ex q
      exact ⟨t, t1, Classical.byContradiction (fun z => t2 (if_neg z))⟩
    · rintro ⟨t, t1, t2⟩
      exact cn_pos t1 (by rw [if_pos t2]; omega)
  have howk : ∀ t, t < n → ow t ≤ k := fun t ht => ((cu_ab h.1).2.2.2.2.1 t ht).2
  unfold bcn xcF
  by_cases z : hw w c
  · have eP : P' c = P c + 1 := by rw [hP c hc]; unfold PL; rw [if_pos z]
    have hb : ∀ p, p < P c → ((p + 1 = 0 ∨ cn (fun t => if N' (9 + 20 * t + 2) = 0 ∧ fq (mo' c) (ow t) (P' c) = p + 1 then 1 else 0) n ≠ 0) ↔ hw (so (psB G 0 c (P c) (nI r)) n) p) := fun p hp => by
      rw [hex, hso p (by omega)]
      constructor
      · rintro (q | ⟨t, t1, t2, t3⟩)
        · omega
        · obtain ⟨u1, u2⟩ := (hopen t t1).mp t2
          rw [hm c hc, eP, fq_up c rfl z (howk t t1)] at t3
          exact ⟨t, t1, u1, u2, by omega⟩
      · rintro ⟨t, t1, u1, u2, u3⟩
        refine Or.inr ⟨t, t1, (hopen t t1).mpr ⟨u1, u2⟩, ?_⟩
        rw [hm c hc, eP, fq_up c rfl z (howk t t1), u3]
    have e1 : cn (fun p => if p = 0 ∨ cn (fun t => if N' (9 + 20 * t + 2) = 0 ∧ fq (mo' c) (ow t) (P' c) = p then 1 else 0) n ≠ 0 then 1 else 0) (P' c) = 1 + cn (fun p => if hw (so (psB G 0 c (P c) (nI r)) n) p then 1 else 0) (P c) := by
      rw [show cn (fun p => if p = 0 ∨ cn (fun t => if N' (9 + 20 * t + 2) = 0 ∧ fq (mo' c) (ow t) (P' c) = p then 1 else 0) n ≠ 0 then 1 else 0) (P' c) = cn (fun p => if p = 0 ∨ cn (fun t => if N' (9 + 20 * t + 2) = 0 ∧ fq (mo' c) (ow t) (P' c) = p then 1 else 0) n ≠ 0 then 1 else 0) (P c + 1) by rw [← eP], rm_first, if_pos (Or.inl rfl)]
      congr 1
      exact cn_congr (fun p hp => ite_cg (hb p hp) rfl rfl)
    rw [e1, if_pos z]
    congr 1
    rw [show cn (fun k => if hw (so (psB G 0 c (P c) (nI r)) n) k then 1 else 0) 10 = cn (fun k => if hw (so (psB G 0 c (P c) (nI r)) n) k then 1 else 0) (P c + (10 - P c)) by rw [show P c + (10 - P c) = 10 by omega], rm_split, rm_zero (f := fun i => if hw (so (psB G 0 c (P c) (nI r)) n) (P c + i) then 1 else 0) (fun i hi => if_neg (fun q => ?_))]
    · rfl
    · obtain ⟨t, t1, t2, t3, t4⟩ := (hso (P c + i) (by omega)).mp q
      have := ABS_f (cu_ab h.1) t1 t3 hc
      omega
  · have eP : P' c = P c := by rw [hP c hc]; unfold PL; rw [if_neg z]
    have em : mo' c = mo c := by rw [hm c hc]; funext p; unfold moL; rw [if_neg z]
    have hb : ∀ p, p < P c - 1 → ((p + 1 = 0 ∨ cn (fun t => if N' (9 + 20 * t + 2) = 0 ∧ fq (mo' c) (ow t) (P' c) = p + 1 then 1 else 0) n ≠ 0) ↔ hw (so (psB G 0 c (P c) (nI r)) n &&& (-2)) (p + 1)) := fun p hp => by
      rw [hex, hb_and _ _ _ (by omega), hso (p + 1) (by omega), hb_m2 _ (by omega), em, eP]
      constructor
      · rintro (q | ⟨t, t1, t2, t3⟩)
        · omega
        · obtain ⟨u1, u2⟩ := (hopen t t1).mp t2
          exact ⟨⟨t, t1, u1, u2, t3⟩, by omega⟩
      · rintro ⟨⟨t, t1, u1, u2, u3⟩, -⟩
        exact Or.inr ⟨t, t1, (hopen t t1).mpr ⟨u1, u2⟩, u3⟩
    have e1 : cn (fun p => if p = 0 ∨ cn (fun t => if N' (9 + 20 * t + 2) = 0 ∧ fq (mo' c) (ow t) (P' c) = p then 1 else 0) n ≠ 0 then 1 else 0) (P' c) = 1 + cn (fun p => if hw (so (psB G 0 c (P c) (nI r)) n &&& (-2)) (p + 1) then 1 else 0) (P c - 1) := by
      rw [show cn (fun p => if p = 0 ∨ cn (fun t => if N' (9 + 20 * t + 2) = 0 ∧ fq (mo' c) (ow t) (P' c) = p then 1 else 0) n ≠ 0 then 1 else 0) (P' c) = cn (fun p => if p = 0 ∨ cn (fun t => if N' (9 + 20 * t + 2) = 0 ∧ fq (mo' c) (ow t) (P' c) = p then 1 else 0) n ≠ 0 then 1 else 0) (P c - 1 + 1) by rw [show P c - 1 + 1 = P c by omega, eP], rm_first, if_pos (Or.inl rfl)]
      congr 1
      exact cn_congr (fun p hp => ite_cg (hb p hp) rfl rfl)
    have e0 : ¬ hw (so (psB G 0 c (P c) (nI r)) n &&& (-2)) 0 := fun q => by
      have := (hb_and _ _ 0 (by omega)).mp q
      exact (hb_m2 0 (by omega)).mp this.2 rfl
    rw [e1, if_neg z]
    congr 1
    rw [show cn (fun k => if hw (so (psB G 0 c (P c) (nI r)) n &&& (-2)) k then 1 else 0) 10 = cn (fun k => if hw (so (psB G 0 c (P c) (nI r)) n &&& (-2)) k then 1 else 0) (9 + 1) from rfl, rm_first, if_neg e0, Nat.zero_add, show (9 : Nat) = (P c - 1) + (10 - P c) by omega, rm_split, rm_zero (f := fun i => if hw (so (psB G 0 c (P c) (nI r)) n &&& (-2)) (P c - 1 + i + 1) then 1 else 0) (fun i hi => if_neg (fun q => ?_))]
    · rfl
    · have q1 := (hb_and _ _ _ (by omega)).mp q
      obtain ⟨t, t1, t2, t3, t4⟩ := (hso (P c - 1 + i + 1) (by omega)).mp q1.1
      have := ABS_f (cu_ab h.1) t1 t3 hc
      omega
/-- how many old versions a commit leaves: both count the same -/
theorem full_eq (h : CurR G 0 N n k W P mo ow vx) (hr : r < n) (hk : k < 40) : cmV N r k k n W = 12 + cn (fun c => bcn (xcF G n r P (N (9 + 20 * r + 4)) c) 10) 12 ∧ sm (ovF G 0 n r P) 12 = nI (cn (fun c => bcn (xcF G n r P (N (9 + 20 * r + 4)) c) 10) 12) := by
  obtain ⟨c1, c2, c3, c4, c5, c6, c7, c8, c9, c10, c11, c12⟩ := cu_rd h.1 hr
  have hW := h.2.1.2.2
  constructor
  · have key : ∀ {N' : Nat → Int32} {k' W' : Nat} {P' : Nat → Nat} {mo' : Nat → Nat → Nat} {va' : Nat → Nat → Int32} {vx' : Nat → Nat → Nat}, ABS N' n k' P' mo' ow → TbS N' W' (fun _ _ => True) P' mo' va' vx' → W' ≤ 64 → (∀ c, c < 12 → P' c = PL (N (9 + 20 * r + 4)) P c) → (∀ c, c < 12 → mo' c = moL (N (9 + 20 * r + 4)) k mo c) → (∀ t, t < n → N' (9 + 20 * t + 2) = upd N (9 + 20 * r + 2) (nI 1) (9 + 20 * t + 2)) → (rmD N' n W' W').2.1 = 12 + cn (fun c => bcn (xcF G n r P (N (9 + 20 * r + 4)) c) 10) 12 := by
      intro N' k' W' P' mo' va' vx' hA hT h64 hP hm hst
      obtain ⟨vx1, t1, -⟩ := rm_all hA hT h64
      have e := TbS_count (b := fun c p => if p = 0 ∨ cn (fun t => if N' (9 + 20 * t + 2) = 0 ∧ fq (mo' c) (ow t) (P' c) = p then 1 else 0) n ≠ 0 then 1 else 0) (fun c hc => (hA.1 c hc).2.2.2) (fun c p hc hp => by have := ABS_m hA hc hp; have := hA.2.2.1; omega) t1 (fun c p hc hp => ?_)
      · rw [e]
        have e2 : cn (fun c => cn (fun p => if p = 0 ∨ cn (fun t => if N' (9 + 20 * t + 2) = 0 ∧ fq (mo' c) (ow t) (P' c) = p then 1 else 0) n ≠ 0 then 1 else 0) (P' c)) 12 = cn (fun c => 1 + bcn (xcF G n r P (N (9 + 20 * r + 4)) c) 10) 12 := cn_congr (fun c hc => full_c h hr hP hm hst hc)
        rw [e2, rm_add, rm_const]
      · have hex : (cn (fun t => if N' (9 + 20 * t + 2) = 0 ∧ fq (mo' c) (ow t) (P' c) = p then 1 else 0) n ≠ 0) ↔ ∃ t, t < n ∧ SE N' P' mo' ow t c p := by
          constructor
          · intro q
            obtain ⟨t, t1, t2⟩ := rm_ex q
            exact ⟨t, t1, Classical.byContradiction (fun z => t2 (if_neg z))⟩
          · rintro ⟨t, t1, t2⟩
            have t2 : N' (9 + 20 * t + 2) = 0 ∧ fq (mo' c) (ow t) (P' c) = p := t2
            exact cn_pos t1 (by rw [if_pos t2]; omega)
        exact ⟨fun z => if_pos (z.elim Or.inl (fun q => Or.inr (hex.mpr q))), fun z => if_neg (fun w => z (w.elim Or.inl (fun q => Or.inr (hex.mp q))))⟩
    unfold cmV
    by_cases h0 : N (9 + 20 * r + 4) = 0
    · have ec : cdN N r k k W = (upd N (9 + 20 * r + 2) (nI 1), W) := by unfold cdN; rw [if_pos h0]
      have hL0 := cur_leave (x := nI 1) h hr (by decide)
      rw [ec]
      refine key (cu_ab hL0) (cu_tb hL0) (by omega) (fun c hc => ?_) (fun c hc => ?_) (fun t ht => rfl)
      · unfold PL; rw [h0, if_neg (hw_0 (by omega))]
      · funext p; unfold moL; rw [h0, if_neg (hw_0 (by omega))]
    · obtain ⟨l1, l2, l3, l4, l5, l6, l7, l8⟩ := land_N h hr hk h0
      have : cw (N (9 + 20 * r + 4)) 12 ≤ 12 := cn_le (fun _ _ => by split <;> omega)
      have hn4 := (cu_ab h.1).2.2.2.1
      exact key l3 l4 (by omega) (fun c hc => rfl) (fun c hc => rfl) (fun t ht => l5 _ (by omega) (by omega) (by omega) (by omega))
  · rw [← rm_nI]
    refine sm_congr (fun c hc => ?_)
    rw [← bc_10 (xc_sml h hc)]
    unfold ovF xcF
    rw [c5]
end LAN2
