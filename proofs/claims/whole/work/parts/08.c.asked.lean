/-! Contracts of the class and the reference, one behind the other: questions. -/
theorem kM_mono {l : Launch} {y : MethodName} {bytes : ByteArray} {maxL : Nat} {ret : Option FieldType} {rm : Room} {D : va_G} {τ : Nat → ClassId} {ad : Nat → Nat} {As : List Value} {G : Nat → Nat → Int32} {R R' : Int32 → (Nat → Nat → Int32) → Prop} (h : kM l y bytes maxL ret rm D τ ad As G R) (hh : ∀ v G', R v G' → R' v G') : kM l y bytes maxL ret rm D τ ad As G R' := by
  unfold kM Met at h ⊢
  intro p e ha hc hk s m args below hf happ hp hk'
  obtain ⟨n, o, h1, h2, h3, h4⟩ := h p e ha hc hk s m args below hf happ hp hk'
  refine ⟨n, o, h1, h2, h3, ?_⟩
  obtain ⟨⟨⟨r, u, e1, e2, e3⟩, e4⟩, e5⟩ := h4
  exact ⟨⟨⟨r, u, e1, hh r u e2, e3⟩, e4⟩, e5⟩
/-- what the contracts want of the relation -/
def PRE (G : Nat → Nat → Int32) (n k W L : Nat) (P : Nat → Nat) (pi : Nat → Nat) : Prop :=
  G 8 1 = nI L ∧ L ≤ 4 ∧ (∀ t, t < 4 → G 9 t = nI (pi t) ∧ pi t < 7) ∧ (∀ t, t < 4 → pi t ≠ 0) ∧ (G (sB 0) 6 = nI n ∧ n ≤ 40 ∧ G (sB 0) 7 = nI k ∧ k ≤ 40) ∧ (∀ r, r < n → G (rN 0 r) 8 = 0 ∨ G (rN 0 r) 8 = 1) ∧ (G (sB 0) 9 = 0 ∨ G (sB 0) 9 = 1) ∧ (∀ c, c < 12 → G (cB 0 c) 2 = nI (P c) ∧ 1 ≤ P c ∧ P c ≤ 9) ∧ (G 1 8 = nI W ∧ 1 ≤ W ∧ W ≤ 52) ∧ G 1 2 = nI n ∧ G 1 6 = nI k ∧ G 1 0 = nI k ∧ G 0 2 = nI L ∧ G (sB 0) 3 = nI k
theorem pre_of {G : Nat → Nat → Int32} {n k W L : Nat} {P : Nat → Nat} {pi : Nat → Nat} {mo : Nat → Nat → Nat} {ow : Nat → Nat} {vx : Nat → Nat → Nat} (hC : CurR G 0 (G 1) n k W P mo ow vx) (hH : HisR G L pi) : PRE G n k W L P pi := by
  obtain ⟨a1, a2, a3, a4, a5, a6⟩ := hH
  obtain ⟨s1, s2, s3, s4, s5, s6, s7, s8, s9, s10, s11, s12⟩ := cu_sc hC.1
  have hn4 := (cu_ab hC.1).2.2.2.1
  have hk := hC.2.1.1
  have e1 : nI 1 = (1 : Int32) := rfl
  refine ⟨a1, a3, fun t ht => ⟨(a4 t ht).1, (a4 t ht).2.2⟩, fun t ht => by have := (a4 t ht).2.1; omega, ⟨s4, hn4, s6, by omega⟩, fun r hr => ?_, ?_, cu_P9 hC, ⟨s11, ?_, hC.2.1.2.2⟩, s5, s7, (cu_ab hC.1).2.1, a2, s1⟩
  · obtain ⟨-, -, -, -, -, -, -, c8, c9, -⟩ := cu_rd hC.1 hr
    rw [c8]; exact c9
  · rw [s9]; exact s10
  · have := ((cu_tb hC.1).1 0 0 (by omega) (cu_1 hC.1 (by omega)) trivial).1
    omega
theorem rdP_yn {n : Nat} {x : Int32} {miss : Prop} {hit : Nat → Prop} (h : rdP n x miss hit) : (∃ r, r < n ∧ x = nI r ∧ hit r) ∨ ((∀ r, r < n → ¬ x = nI r) ∧ miss) := by
  by_cases z : ∃ r, r < n ∧ x = nI r
  · obtain ⟨r, a, b⟩ := z
    exact Or.inl ⟨r, a, b, h.1 r a b⟩
  · have w : ∀ r, r < n → ¬ x = nI r := fun r a b => z ⟨r, a, b⟩
    exact Or.inr ⟨w, h.2 w⟩
theorem lw_cell (l : Launch) {D : va_G} {τ : Nat → ClassId} {ad : Nat → Nat} (hI : kInj ad) {G : Nat → Nat → Int32} (hR : REL G) {x y : Int32} : kM l yX6_cell cX6_cell 4 (some .int) { frames := 2, cells := 0, slots := 0, locals := 47 } D τ ad [.ref (ad 7), .int x, .int y] G (fun v G1 => kM l yX7_cell cX7_cell 3 (some .int) { frames := 4, cells := 0, slots := 0, locals := 94 } D τ ad [.ref (ad 0), .int x, .int y] G1 (fun w G2 => w = v ∧ REL G2)) := by
  have hR0 := hR
  obtain ⟨⟨n, k, W, P, mo, ow, vx, hC⟩, ⟨L, pi, hH⟩, hST⟩ := hR
  obtain ⟨p1, p2, p3, p4, ⟨p5, p6, p7, p8⟩, p9, p10, p11, ⟨p12, p13, p14⟩, p15, p16, p17, p18, p19⟩ := pre_of hC hH
  refine kM_mono (c_X6_cell l hI p5 p6 (cu_hp hC.1)) (fun v G1 hc => ?_)
  obtain ⟨rfl, hc⟩ := hc
  refine kM_mono (c_X7_cell l hI p12 p13 (by omega) p15 p6) (fun w G2 hm => ?_)
  obtain ⟨rfl, hm⟩ := hm
  refine ⟨?_, hR0⟩
  rcases rdP_yn hc with ⟨c, q1, q2, q3⟩ | ⟨q1, q2⟩
  · rw [hm.1 c q1 q2, q3, an_cell hC.1 q1]
  · rw [hm.2 q1, q2]
theorem lw_reader (l : Launch) {D : va_G} {τ : Nat → ClassId} {ad : Nat → Nat} (hI : kInj ad) {G : Nat → Nat → Int32} (hR : REL G) {x y : Int32} : kM l yX6_reader cX6_reader 4 (some .int) { frames := 4, cells := 0, slots := 0, locals := 93 } D τ ad [.ref (ad 7), .int x, .int y] G (fun v G1 => kM l yX7_reader cX7_reader 3 (some .int) { frames := 6, cells := 0, slots := 0, locals := 139 } D τ ad [.ref (ad 0), .int x, .int y] G1 (fun w G2 => w = v ∧ REL G2)) := by
  have hR0 := hR
  obtain ⟨⟨n, k, W, P, mo, ow, vx, hC⟩, ⟨L, pi, hH⟩, hST⟩ := hR
  obtain ⟨p1, p2, p3, p4, ⟨p5, p6, p7, p8⟩, p9, p10, p11, ⟨p12, p13, p14⟩, p15, p16, p17, p18, p19⟩ := pre_of hC hH
  refine kM_mono (c_X6_reader l hI p5 p6 p7 p8 (cu_hp hC.1)) (fun v G1 hc => ?_)
  obtain ⟨rfl, hc⟩ := hc
  refine kM_mono (c_X7_reader l hI p12 p13 (by omega) p15 p6 p16 p8) (fun w G2 hm => ?_)
  obtain ⟨rfl, hm⟩ := hm
  refine ⟨?_, hR0⟩
  rcases rdP_yn hc with ⟨c, q1, q2, q3⟩ | ⟨q1, q2⟩
  · rw [hm.1 c q1 q2, q3, an_reader hC.1 p8 q1]
  · rw [hm.2 q1, q2]
theorem lw_count (l : Launch) {D : va_G} {τ : Nat → ClassId} {ad : Nat → Nat} (hI : kInj ad) {G : Nat → Nat → Int32} (hR : REL G) {y : Int32} : kM l yX6_count cX6_count 2 (some .int) { frames := 2, cells := 0, slots := 0, locals := 42 } D τ ad [.ref (ad 7), .int y] G (fun v G1 => kM l yX7_count cX7_count 2 (some .int) { frames := 3, cells := 0, slots := 0, locals := 69 } D τ ad [.ref (ad 0), .int y] G1 (fun w G2 => w = v ∧ REL G2)) := by
  have hR0 := hR
  obtain ⟨⟨n, k, W, P, mo, ow, vx, hC⟩, ⟨L, pi, hH⟩, hST⟩ := hR
  obtain ⟨p1, p2, p3, p4, ⟨p5, p6, p7, p8⟩, p9, p10, p11, ⟨p12, p13, p14⟩, p15, p16, p17, p18, p19⟩ := pre_of hC hH
  refine kM_mono (c_X6_count l hI p5 p6 p7 p8 (cu_hp hC.1)) (fun v G1 hc => ?_)
  obtain ⟨rfl, rfl⟩ := hc
  refine kM_mono (c_X7_count l hI p12 p15 p6 p16 p8) (fun w G2 hm => ?_)
  obtain ⟨rfl, rfl⟩ := hm
  obtain ⟨T, t1, t2, t3, t4⟩ := hST.2
  exact ⟨(an_count hC.1 (by rw [p1, p18]) (by rw [t2, t3]) y).symm, hR0⟩
theorem lw_committed (l : Launch) {D : va_G} {τ : Nat → ClassId} {ad : Nat → Nat} (hI : kInj ad) {G : Nat → Nat → Int32} (hR : REL G) {x y : Int32} : kM l yX6_committed cX6_committed 4 (some .int) { frames := 0, cells := 0, slots := 0, locals := 0 } D τ ad [.ref (ad 7), .int x, .int y] G (fun v G1 => kM l yX7_committed cX7_committed 3 (some .int) { frames := 2, cells := 0, slots := 0, locals := 47 } D τ ad [.ref (ad 0), .int x, .int y] G1 (fun w G2 => w = v ∧ REL G2)) := by
  have hR0 := hR
  obtain ⟨⟨n, k, W, P, mo, ow, vx, hC⟩, ⟨L, pi, hH⟩, hST⟩ := hR
  obtain ⟨p1, p2, p3, p4, ⟨p5, p6, p7, p8⟩, p9, p10, p11, ⟨p12, p13, p14⟩, p15, p16, p17, p18, p19⟩ := pre_of hC hH
  refine kM_mono (c_X6_committed l hI p7 p8) (fun v G1 hc => ?_)
  obtain ⟨rfl, hc⟩ := hc
  refine kM_mono (c_X7_committed l hI p16 p8) (fun w G2 hm => ?_)
  obtain ⟨rfl, hm⟩ := hm
  refine ⟨?_, hR0⟩
  rcases rdP_yn hc with ⟨c, q1, q2, q3⟩ | ⟨q1, q2⟩
  · have hm := hm.1 c q1 q2
    rw [q3, an_committed hC.1 q1]
    split at hm
    · rename_i z
      rw [if_pos z]
      split at hm
      · rename_i z2; rw [if_pos z2]; exact hm
      · rename_i z2; rw [if_neg z2]; exact hm
    · rename_i z; rw [if_neg z]; exact hm
  · rw [hm.2 q1, q2]
theorem lw_version (l : Launch) {D : va_G} {τ : Nat → ClassId} {ad : Nat → Nat} (hI : kInj ad) {G : Nat → Nat → Int32} (hR : REL G) {x p y : Int32} : kM l yX6_version cX6_version 5 (some .int) { frames := 3, cells := 0, slots := 0, locals := 70 } D τ ad [.ref (ad 7), .int x, .int p, .int y] G (fun v G1 => kM l yX7_version cX7_version 6 (some .int) { frames := 5, cells := 0, slots := 0, locals := 116 } D τ ad [.ref (ad 0), .int x, .int p, .int y] G1 (fun w G2 => w = v ∧ REL G2)) := by
  have hR0 := hR
  obtain ⟨⟨n, k, W, P, mo, ow, vx, hC⟩, ⟨L, pi, hH⟩, hST⟩ := hR
  obtain ⟨p1, p2, p3, p4, ⟨p5, p6, p7, p8⟩, p9, p10, p11, ⟨p12, p13, p14⟩, p15, p16, p17, p18, p19⟩ := pre_of hC hH
  refine kM_mono (c_X6_version l hI p5 p6 (cu_hp hC.1)) (fun v G1 hc => ?_)
  obtain ⟨rfl, hc⟩ := hc
  refine kM_mono (c_X7_version l hI p12 p13 (by omega) p15 p6) (fun w G2 hm => ?_)
  obtain ⟨rfl, hm⟩ := hm
  refine ⟨?_, hR0⟩
  rcases rdP_yn hc with ⟨c, q1, q2, q3⟩ | ⟨q1, q2⟩
  · have hm := hm.1 c q1 q2
    have hv := cu_vers hC.1 q1
    unfold vcM at hm
    dsimp only at hm
    rw [hv] at hm
    by_cases z : ¬ p < 0 ∧ nI 0 ≤ y ∧ y ≤ nI 4
    · rw [if_pos z] at hm q3
      by_cases z2 : nI (P c) ≤ p
      · rw [if_pos z2] at hm q3; rw [hm, q3]
      · rw [if_neg z2] at hm q3
        obtain ⟨q, e1, rfl⟩ := nI_of z.1
        have h10 := cu_P10 hC.1 q1
        have hq : q < P c := by
          rcases Nat.lt_or_ge q (P c) with u | u
          · exact u
          · exact absurd (nI_le u (by omega)) z2
        rw [hm, q3, an_version hC.1 q1 hq, nI_clamp e1]
    · rw [if_neg z] at hm q3; rw [hm, q3]
  · rw [hm.2 q1, q2]
theorem lw_clearText (l : Launch) {D : va_G} {τ : Nat → ClassId} {ad : Nat → Nat} (hI : kInj ad) {G : Nat → Nat → Int32} (hR : REL G) : kM l yX6_clearText cX6_clearText 2 (some .int) { frames := 0, cells := 0, slots := 0, locals := 0 } D τ ad [.ref (ad 7)] G (fun v G1 => kM l yX7_clearText cX7_clearText 2 (some .int) { frames := 0, cells := 0, slots := 0, locals := 0 } D τ ad [.ref (ad 0)] G1 (fun w G2 => w = v ∧ REL G2)) := by
  obtain ⟨hC, hH, hS, T, t1, t2, t3, t4⟩ := hR
  refine kM_mono (c_X6_clearText l hI t2) (fun v G1 hc => ?_)
  obtain ⟨rfl, rfl⟩ := hc
  refine kM_mono (c_X7_clearText l hI (T := T) (by rw [gs_other (by omega)]; exact t3)) (fun w G2 hm => ?_)
  obtain ⟨rfl, rfl⟩ := hm
  have hb : ∀ q, 11 ≤ q → gs (gs G 10 1 (nI 0)) 0 5 (nI 0) q = G q := fun q hq => by rw [gs_other (by omega), gs_other (by omega)]
  obtain ⟨L, pi, hH⟩ := hH
  refine ⟨rfl, ?_, ⟨L, pi, ?_⟩, ?_, 0, by omega, ?_, ?_, ?_⟩
  · refine curE_f hC (fun o ho => hb _ (by unfold sB; omega)) (fun f hf => ?_)
    rw [gs_other (by omega), gs_other (by omega)]
  · exact his_f hH (fun q hq => hb q (by omega)) (fun f hf => by rw [gs_other (by omega), gs_other (by omega)]) (by rw [gs_other (by omega), gs_other (by omega)]) (by rw [gs_other (by omega), gs_other (by omega)]) (by rw [gs_row (by omega), gs_other (by omega)])
  · exact snp_f hS (fun q hq _ => hb q (by omega)) (fun f _ hf => by rw [gs_other (by omega), gs_other (by omega)]) (by rw [gs_other (by omega), gs_other (by omega)]) (by rw [gs_row (by omega), gs_other (by omega)])
  · rw [gs_other (by omega), gs_up, upd_eq]
  · rw [gs_up, upd_eq]
  · rw [hb 11 (by omega), gs_other (by omega), gs_other (by omega)]; exact t4
theorem lw_type (l : Launch) {D : va_G} {τ : Nat → ClassId} {ad : Nat → Nat} (hI : kInj ad) {G : Nat → Nat → Int32} (hR : REL G) {q : Nat} (hq : q < 65536) : kM l yX6_type cX6_type 2 (some .int) { frames := 1, cells := 0, slots := 0, locals := 21 } D τ ad [.ref (ad 7), .int (nI q)] G (fun v G1 => kM l yX7_type cX7_type 2 (some .int) { frames := 0, cells := 0, slots := 0, locals := 0 } D τ ad [.ref (ad 0), .int (nI q)] G1 (fun w G2 => w = v ∧ REL G2)) := by
  have hR0 := hR
  obtain ⟨hC, hH, hS, T, t1, t2, t3, t4⟩ := hR
  refine kM_mono (c_X6_type l hI t2 t1 hq) (fun v G1 hc => ?_)
  by_cases z : T = 60
  · rw [if_pos z] at hc
    obtain ⟨rfl, rfl⟩ := hc
    refine kM_mono (c_X7_type l hI t3 t1) (fun w G2 hm => ?_)
    rw [if_pos z] at hm
    obtain ⟨rfl, rfl⟩ := hm
    exact ⟨rfl, hR0⟩
  · rw [if_neg z] at hc
    obtain ⟨rfl, rfl⟩ := hc
    refine kM_mono (c_X7_type l hI (T := T) (by rw [gs_other (by omega), gs_other (by omega)]; exact t3) t1) (fun w G2 hm => ?_)
    rw [if_neg z] at hm
    obtain ⟨rfl, rfl⟩ := hm
    obtain ⟨G3, e3⟩ : ∃ z, z = gs (gs (gs (gs G 11 T (nI q)) 10 1 (nI (T + 1))) 3 T (nI q)) 0 5 (nI (T + 1)) := ⟨_, rfl⟩
    rw [← e3]
    have hb : ∀ q, q ≠ 0 → q ≠ 3 → q ≠ 10 → q ≠ 11 → G3 q = G q := fun q q1 q2 q3 q4 => by rw [e3, gs_other q1, gs_other q2, gs_other q3, gs_other q4]
    have h0 : ∀ f, f ≠ 5 → G3 0 f = G 0 f := fun f hf => by rw [e3, gs_row hf, gs_other (by omega), gs_other (by omega), gs_other (by omega)]
    obtain ⟨L, pi, hH⟩ := hH
    refine ⟨rfl, ?_, ⟨L, pi, ?_⟩, ?_, T + 1, by omega, ?_, ?_, ?_⟩
    · exact curE_f hC (fun o ho => hb _ (by unfold sB; omega) (by unfold sB; omega) (by unfold sB; omega) (by unfold sB; omega)) (fun f hf => by rw [hb 1 (by omega) (by omega) (by omega) (by omega)])
    · exact his_f hH (fun q hq => hb q (by omega) (by omega) (by omega) (by omega)) (fun f hf => by rw [hb 2 (by omega) (by omega) (by omega) (by omega)]) (by rw [hb 9 (by omega) (by omega) (by omega) (by omega)]) (by rw [hb 8 (by omega) (by omega) (by omega) (by omega)]) (h0 2 (by omega))
    · exact snp_f hS (fun q hq _ => hb q (by omega) (by omega) (by omega) (by omega)) (fun f _ hf => by rw [hb 2 (by omega) (by omega) (by omega) (by omega)]) (by rw [hb 7 (by omega) (by omega) (by omega) (by omega)]) (h0 3 (by omega))
    · rw [e3, gs_other (by omega), gs_other (by omega), gs_up, upd_eq]
    · rw [e3, gs_up, upd_eq]
    · rw [e3, gs_other (by omega), gs_other (by omega), gs_other (by omega), gs_up, gs_other (by omega), gs_up, gs_other (by omega), gs_other (by omega), t4]
