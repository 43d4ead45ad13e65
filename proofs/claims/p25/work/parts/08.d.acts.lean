/-! Acts: what the class's own contracts leave, told of the state's numbers. -/
/-- one number of a reader changes, on both sides -/
theorem RRR_1 {row wr N : Nat → Int32} {r a b : Nat} {x : Int32} (h : RRR row wr N r) (hab : (a = 3 ∧ b = 1) ∨ (a = 4 ∧ b = 3) ∨ (a = 8 ∧ b = 6 ∧ (x = 0 ∨ x = nI 1)) ∨ (a = 6 ∧ b = 5 ∧ ∃ t, t ≤ 20 ∧ x = nI t)) : RRR (upd row a x) wr (upd N (9 + 20 * r + b) x) r := by
  obtain ⟨c1, c2, c3, c4, c5, c6, c7, c8, c9, c10, c11, c12⟩ := h
  have hu : ∀ f, f ≠ b → upd N (9 + 20 * r + b) x (9 + 20 * r + f) = N (9 + 20 * r + f) := fun f hf => upd_ne (by omega)
  have hr : ∀ f, f ≠ a → upd row a x f = row f := fun f hf => upd_ne hf
  rcases hab with ⟨rfl, rfl⟩ | ⟨rfl, rfl⟩ | ⟨rfl, rfl, hx⟩ | ⟨rfl, rfl, hx⟩
  · exact ⟨by rw [hr 1 (by omega), hu 2 (by omega)]; exact c1, by rw [hr 2 (by omega), hu 0 (by omega)]; exact c2, by rw [upd_eq, upd_eq], by rw [hr 4 (by omega), hu 3 (by omega)]; exact c4, by rw [hr 5 (by omega), hu 4 (by omega)]; exact c5, by rw [hr 6 (by omega), hu 5 (by omega)]; exact c6, by rw [hr 7 (by omega), hu 7 (by omega)]; exact c7, by rw [hr 8 (by omega), hu 6 (by omega)]; exact c8, by rw [hu 6 (by omega)]; exact c9, by rw [hu 4 (by omega)]; exact c10, by rw [hu 5 (by omega)]; exact c11, fun c hc hh => by rw [hu 4 (by omega)] at hh; rw [hu (8 + c) (by omega)]; exact c12 c hc hh⟩
  · exact ⟨by rw [hr 1 (by omega), hu 2 (by omega)]; exact c1, by rw [hr 2 (by omega), hu 0 (by omega)]; exact c2, by rw [hr 3 (by omega), hu 1 (by omega)]; exact c3, by rw [upd_eq, upd_eq], by rw [hr 5 (by omega), hu 4 (by omega)]; exact c5, by rw [hr 6 (by omega), hu 5 (by omega)]; exact c6, by rw [hr 7 (by omega), hu 7 (by omega)]; exact c7, by rw [hr 8 (by omega), hu 6 (by omega)]; exact c8, by rw [hu 6 (by omega)]; exact c9, by rw [hu 4 (by omega)]; exact c10, by rw [hu 5 (by omega)]; exact c11, fun c hc hh => by rw [hu 4 (by omega)] at hh; rw [hu (8 + c) (by omega)]; exact c12 c hc hh⟩
  · exact ⟨by rw [hr 1 (by omega), hu 2 (by omega)]; exact c1, by rw [hr 2 (by omega), hu 0 (by omega)]; exact c2, by rw [hr 3 (by omega), hu 1 (by omega)]; exact c3, by rw [hr 4 (by omega), hu 3 (by omega)]; exact c4, by rw [hr 5 (by omega), hu 4 (by omega)]; exact c5, by rw [hr 6 (by omega), hu 5 (by omega)]; exact c6, by rw [hr 7 (by omega), hu 7 (by omega)]; exact c7, by rw [upd_eq, upd_eq], by rw [upd_eq]; exact hx, by rw [hu 4 (by omega)]; exact c10, by rw [hu 5 (by omega)]; exact c11, fun c hc hh => by rw [hu 4 (by omega)] at hh; rw [hu (8 + c) (by omega)]; exact c12 c hc hh⟩
  · exact ⟨by rw [hr 1 (by omega), hu 2 (by omega)]; exact c1, by rw [hr 2 (by omega), hu 0 (by omega)]; exact c2, by rw [hr 3 (by omega), hu 1 (by omega)]; exact c3, by rw [hr 4 (by omega), hu 3 (by omega)]; exact c4, by rw [hr 5 (by omega), hu 4 (by omega)]; exact c5, by rw [upd_eq, upd_eq], by rw [hr 7 (by omega), hu 7 (by omega)]; exact c7, by rw [hr 8 (by omega), hu 6 (by omega)]; exact c8, by rw [hu 6 (by omega)]; exact c9, by rw [hu 4 (by omega)]; exact c10, by rw [upd_eq]; exact hx, fun c hc hh => by rw [hu 4 (by omega)] at hh; rw [hu (8 + c) (by omega)]; exact c12 c hc hh⟩
/-- a write, on both sides -/
theorem RRR_w {row wr N : Nat → Int32} {r c : Nat} {z : Int32} (h : RRR row wr N r) (hc : c < 12) : RRR (upd row 5 (row 5 ||| bt c)) (upd wr c z) (upd (upd N (9 + 20 * r + 4) (N (9 + 20 * r + 4) ||| bt c)) (9 + 20 * r + (8 + c)) z) r := by
  obtain ⟨c1, c2, c3, c4, c5, c6, c7, c8, c9, c10, c11, c12⟩ := h
  have hu : ∀ f, f ≠ 4 → f ≠ 8 + c → upd (upd N (9 + 20 * r + 4) (N (9 + 20 * r + 4) ||| bt c)) (9 + 20 * r + (8 + c)) z (9 + 20 * r + f) = N (9 + 20 * r + f) := fun f hf hf2 => by rw [upd_ne (by omega), upd_ne (by omega)]
  have h4 : upd (upd N (9 + 20 * r + 4) (N (9 + 20 * r + 4) ||| bt c)) (9 + 20 * r + (8 + c)) z (9 + 20 * r + 4) = N (9 + 20 * r + 4) ||| bt c := by rw [upd_ne (by omega), upd_eq]
  have hr : ∀ f, f ≠ 5 → upd row 5 (row 5 ||| bt c) f = row f := fun f hf => upd_ne hf
  refine ⟨by rw [hr 1 (by omega), hu 2 (by omega) (by omega)]; exact c1, by rw [hr 2 (by omega), hu 0 (by omega) (by omega)]; exact c2, by rw [hr 3 (by omega), hu 1 (by omega) (by omega)]; exact c3, by rw [hr 4 (by omega), hu 3 (by omega) (by omega)]; exact c4, by rw [upd_eq, h4, c5], by rw [hr 6 (by omega), hu 5 (by omega) (by omega)]; exact c6, by rw [hr 7 (by omega), hu 7 (by omega) (by omega)]; exact c7, by rw [hr 8 (by omega), hu 6 (by omega) (by omega)]; exact c8, by rw [hu 6 (by omega) (by omega)]; exact c9, by rw [h4]; exact sml_or (by omega) c10 (sml_bt hc (by omega)), by rw [hu 5 (by omega) (by omega)]; exact c11, fun d hd hh => ?_⟩
  rw [h4] at hh
  by_cases e : d = c
  · subst e; rw [upd_eq, upd_eq]
  · rw [upd_ne e, hu (8 + d) (by omega) (by omega)]
    rcases (hb_or _ _ d (by omega)).mp hh with q | q
    · exact c12 d hd q
    · exact absurd ((hb_bt c d (by omega) (by omega)).mp q).symm e
theorem upd_comm {N : Nat → Int32} {a b : Nat} {x y : Int32} (h : a ≠ b) : upd (upd N b y) a x = upd (upd N a x) b y := by
  funext f
  unfold upd
  by_cases e1 : f = a
  · rw [if_pos e1, if_neg (by omega), if_pos e1]
  · rw [if_neg e1]
    by_cases e2 : f = b
    · rw [if_pos e2, if_pos e2]
    · rw [if_neg e2, if_neg e2, if_neg e1]
theorem RRR_w68 {row wr N : Nat → Int32} {r t : Nat} (h : RRR row wr N r) (ht : t ≤ 20) : RRR (upd (upd row 8 (nI 1)) 6 (nI t)) wr (upd (upd N (9 + 20 * r + 6) (nI 1)) (9 + 20 * r + 5) (nI t)) r :=
  RRR_1 (RRR_1 h (Or.inr (Or.inr (Or.inl ⟨rfl, rfl, Or.inr rfl⟩)))) (Or.inr (Or.inr (Or.inr ⟨rfl, rfl, t, ht, rfl⟩)))
section LEV
variable {G G' : Nat → Nat → Int32} {j : Nat} {N : Nat → Int32} {n k W : Nat} {P : Nat → Nat} {mo : Nat → Nat → Nat} {ow : Nat → Nat} {vx : Nat → Nat → Nat}
/-- what is unseen goes: the relation stands again -/
theorem cur_rm {v : Int32} (h : Cur0 G j N n k W P mo ow vx) (hb : k + opn N n ≤ n ∧ opn N n ≤ 8) (hW : W ≤ 64) (hr : ruR G G' j n P v) (hV : (rmD N n W W).2.1 ≤ 52) : (∃ P' mo' vx', CurR G' j (rmN N n W) n k (rmD N n W W).2.1 P' mo' ow vx') ∧ v = nI (rmD N n W W).2.2 ∧ (rmD N n W W).2.1 ≤ W := by
  have hn4 := (cu_ab h).2.2.2.1
  obtain ⟨P', mo', vx', a1, a2, a3, a4, a5⟩ := rv_all h hW (by omega) hr
  refine ⟨⟨P', mo', vx', a1, ?_, a2⟩, a3, a5⟩
  rw [opn_cg (N' := rmN N n W) (N := N) (fun r hr => a4 _ (by omega) (by omega) (Or.inl (by omega)))]
  exact ⟨hb.1, hb.2, hV⟩
theorem opn_leave {r : Nat} {x : Int32} (hr : r < n) (ho : N (9 + 20 * r + 2) = 0) (hx : ¬ x = 0) : opn (upd N (9 + 20 * r + 2) x) n + 1 = opn N n := by
  have e : ∀ m, (r < m → opn (upd N (9 + 20 * r + 2) x) m + 1 = opn N m) ∧ (m ≤ r → opn (upd N (9 + 20 * r + 2) x) m = opn N m) := by
    intro m
    induction m with
    | zero => exact ⟨fun h => absurd h (by omega), fun _ => rfl⟩
    | succ m ih =>
      refine ⟨fun h => ?_, fun h => ?_⟩
      · show opn (upd N (9 + 20 * r + 2) x) m + (if upd N (9 + 20 * r + 2) x (9 + 20 * m + 2) = 0 then 1 else 0) + 1 = opn N m + (if N (9 + 20 * m + 2) = 0 then 1 else 0)
        rcases Nat.lt_or_ge r m with q | q
        · have := ih.1 q
          rw [upd_ne (by omega)]; omega
        · have := ih.2 q
          rw [show m = r by omega] at this ⊢
          rw [upd_eq, if_neg hx, if_pos ho, this]
      · show opn (upd N (9 + 20 * r + 2) x) m + (if upd N (9 + 20 * r + 2) x (9 + 20 * m + 2) = 0 then 1 else 0) = opn N m + (if N (9 + 20 * m + 2) = 0 then 1 else 0)
        rw [upd_ne (by omega), ih.2 (by omega)]
  exact (e n).1 hr
theorem cur_leave {r : Nat} {x : Int32} (h : CurR G j N n k W P mo ow vx) (hr : r < n) (hx : ¬ x = 0) : Cur0 (gs G (rN j r) 1 x) j (upd N (9 + 20 * r + 2) x) n k W P mo ow vx := by
  have hn4 := (cu_ab h.1).2.2.2.1
  have hk4 : k ≤ 40 := by have := h.2.1.1; omega
  obtain ⟨s1, s2, s3, s4, s5, s6, s7, s8, s9, s10, s11, s12⟩ := cu_sc h.1
  have hu : ∀ f, f ≠ 9 + 20 * r + 2 → upd N (9 + 20 * r + 2) x f = N f := fun f hf => upd_ne hf
  have ho : ∀ q, q ≠ rN j r → gs G (rN j r) 1 x q = G q := fun q hq => gs_other hq
  have e0 := ho (sB j) (by unfold sB rN; omega)
  refine ⟨⟨by rw [e0]; exact s1, by rw [e0, hu _ (by omega)]; exact s2, by rw [e0, hu _ (by omega)]; exact s3, by rw [e0]; exact s4, by rw [hu _ (by omega)]; exact s5, by rw [e0]; exact s6, by rw [hu _ (by omega)]; exact s7, by rw [e0, hu _ (by omega)]; exact s8, by rw [e0, hu _ (by omega)]; exact s9, by rw [hu _ (by omega)]; exact s10, by rw [hu _ (by omega)]; exact s11, ?_⟩, fun t ht => ?_, fun q hq => ?_, fun c hc => ?_, ?_, ?_⟩
  · rw [hu _ (by omega), s12]
    exact sm_congr (fun t ht => (hu _ (by omega)).symm)
  · by_cases z : t = r
    · subst z
      rw [gs_up, ho _ (by unfold rW rN; omega)]
      obtain ⟨c1, c2, c3, c4, c5, c6, c7, c8, c9, c10, c11, c12⟩ := cu_rd h.1 ht
      have hr' : ∀ f, f ≠ 1 → upd (G (rN j t)) 1 x f = G (rN j t) f := fun f hf => upd_ne hf
      exact ⟨by rw [upd_eq, upd_eq], by rw [hr' 2 (by omega), hu _ (by omega)]; exact c2, by rw [hr' 3 (by omega), hu _ (by omega)]; exact c3, by rw [hr' 4 (by omega), hu _ (by omega)]; exact c4, by rw [hr' 5 (by omega), hu _ (by omega)]; exact c5, by rw [hr' 6 (by omega), hu _ (by omega)]; exact c6, by rw [hr' 7 (by omega), hu _ (by omega)]; exact c7, by rw [hr' 8 (by omega), hu _ (by omega)]; exact c8, by rw [hu _ (by omega)]; exact c9, by rw [hu _ (by omega)]; exact c10, by rw [hu _ (by omega)]; exact c11, fun c hc hh => by rw [hu _ (by omega)] at hh; rw [hu _ (by omega)]; exact c12 c hc hh⟩
    · exact RRR_congr (fun f hf => hu _ (by omega)) (ho _ (by unfold rN; omega)) (ho _ (by unfold rN rW; omega)) (cu_rd h.1 ht)
  · rw [ho (mC j q) (by unfold mC rN; omega)]
    exact CMR_congr (fun f f1 _ => hu f (by omega)) (by omega) (cu_cm h.1 hq)
  · show gs G (rN j r) 1 x (cB j c) 2 = _ ∧ ∀ p, p < P c → gs G (rN j r) 1 x (cM j c) p = _
    rw [ho (cB j c) (by unfold cB rN; omega), ho (cM j c) (by unfold cM rN; omega)]
    exact cu_cl h.1 hc
  · obtain ⟨a1, a2, a3, a4, a5, a6⟩ := cu_ab h.1
    refine ⟨a1, by rw [hu _ (by omega)]; exact a2, a3, a4, fun t ht => by rw [hu _ (by omega)]; exact a5 t ht, fun t ht ho2 => ?_⟩
    by_cases z : t = r
    · rw [z, upd_eq] at ho2; exact absurd ho2 hx
    · exact a6 t ht (by rw [hu _ (by omega)] at ho2; exact ho2)
  · exact TbS_cg (cu_tb h.1) (by have := h.2.1.2.2; omega) (fun f f1 _ => hu f (by omega)) (fun c p hc hp => by rw [ho _ (by unfold cV rN; omega)])
/-- a new reader -/
theorem cur_open {x : Int32} (h : CurR G 0 N n k W P mo ow vx) (hn : n < 40) (h8 : opn N n < 8) {N' : Nat → Int32} (e2 : N' 2 = nI (n + 1)) (e0 : N' (9 + 20 * n + 0) = nI k) (e1 : N' (9 + 20 * n + 1) = x) (ez : ∀ f, 2 ≤ f → f < 20 → N' (9 + 20 * n + f) = 0) (eo : ∀ f, f ≠ 2 → f < 9 + 20 * n ∨ 9 + 20 * n + 20 ≤ f → N' f = N f) : CurR (adR G n x) 0 N' (n + 1) k W P mo (fun r => if r = n then k else ow r) vx := by
  have hk4 : k ≤ 40 := by have := h.2.1.1; omega
  have hW := h.2.1.2.2
  obtain ⟨s1, s2, s3, s4, s5, s6, s7, s8, s9, s10, s11, s12⟩ := cu_sc h.1
  obtain ⟨a1, a2, a3, a4, a5, a6⟩ := cu_ab h.1
  have ho : ∀ q, q ≠ rN 0 n → q ≠ sB 0 → adR G n x q = G q := fun q h1 h2 => by
    unfold adR
    rw [gs_other h2, gs_other h1, gs_other h1, gs_other h1, gs_other h1, gs_other h1, gs_other h1, gs_other h1, gs_other h1]
  have hs : ∀ f, f ≠ 6 → adR G n x (sB 0) f = G (sB 0) f := fun f hf => by
    have z : sB 0 ≠ rN 0 n := by unfold sB rN; omega
    unfold adR
    rw [gs_row hf, gs_other z, gs_other z, gs_other z, gs_other z, gs_other z, gs_other z, gs_other z, gs_other z]
  have hs6 : adR G n x (sB 0) 6 = nI (n + 1) := by unfold adR; rw [gs_up, upd_eq]
  have hrow : adR G n x (rN 0 n) = upd (upd (upd (upd (upd (upd (upd (upd (G (rN 0 n)) 1 0) 2 (G (sB 0) 3)) 3 x) 4 0) 5 0) 6 0) 7 0) 8 0 := by
    unfold adR
    rw [gs_other (show rN 0 n ≠ sB 0 by unfold sB rN; omega), gs_up, gs_up, gs_up, gs_up, gs_up, gs_up, gs_up, gs_up]
  have hst : ∀ r, r < n → ∀ f, f < 20 → N' (9 + 20 * r + f) = N (9 + 20 * r + f) := fun r hr f hf => eo _ (by omega) (by omega)
  have hop : opn N' (n + 1) = opn N n + 1 := by
    show opn N' n + (if N' (9 + 20 * n + 2) = 0 then 1 else 0) = _
    rw [if_pos (ez 2 (by omega) (by omega)), opn_cg (fun r hr => hst r hr 2 (by omega))]
  refine ⟨⟨⟨by rw [hs 3 (by omega)]; exact s1, by rw [hs 4 (by omega), eo 1 (by omega) (by omega)]; exact s2, by rw [hs 5 (by omega), eo 4 (by omega) (by omega)]; exact s3, hs6, e2, by rw [hs 7 (by omega)]; exact s6, by rw [eo 6 (by omega) (by omega)]; exact s7, by rw [hs 8 (by omega), eo 3 (by omega) (by omega)]; exact s8, by rw [hs 9 (by omega), eo 7 (by omega) (by omega)]; exact s9, by rw [eo 7 (by omega) (by omega)]; exact s10, by rw [eo 8 (by omega) (by omega)]; exact s11, ?_⟩, fun r hr => ?_, fun q hq => ?_, fun c hc => ?_, ?_, ?_⟩, ?_, ?_⟩
  · rw [eo 5 (by omega) (by omega), s12, sm]
    rw [ez 7 (by omega) (by omega), Int32.add_zero]
    exact sm_congr (fun r hr => (hst r hr 7 (by omega)).symm)
  · by_cases z : r = n
    · subst z
      rw [hrow, ho (rW 0 r) (by unfold rW rN; omega) (by unfold rW sB; omega)]
      refine ⟨?_, ?_, ?_, ?_, ?_, ?_, ?_, ?_, Or.inl (ez 6 (by omega) (by omega)), by rw [ez 4 (by omega) (by omega)]; exact sml_0 12, ⟨0, by omega, ez 5 (by omega) (by omega)⟩, fun c hc hh => ?_⟩
      · rw [ez 2 (by omega) (by omega), upd_ne (by omega), upd_ne (by omega), upd_ne (by omega), upd_ne (by omega), upd_ne (by omega), upd_ne (by omega), upd_ne (by omega), upd_eq]
      · rw [e0, upd_ne (by omega), upd_ne (by omega), upd_ne (by omega), upd_ne (by omega), upd_ne (by omega), upd_ne (by omega), upd_eq]; exact s1
      · rw [e1, upd_ne (by omega), upd_ne (by omega), upd_ne (by omega), upd_ne (by omega), upd_ne (by omega), upd_eq]
      · rw [ez 3 (by omega) (by omega), upd_ne (by omega), upd_ne (by omega), upd_ne (by omega), upd_ne (by omega), upd_eq]
      · rw [ez 4 (by omega) (by omega), upd_ne (by omega), upd_ne (by omega), upd_ne (by omega), upd_eq]
      · rw [ez 5 (by omega) (by omega), upd_ne (by omega), upd_ne (by omega), upd_eq]
      · rw [ez 7 (by omega) (by omega), upd_ne (by omega), upd_eq]
      · rw [ez 6 (by omega) (by omega), upd_eq]
      · rw [ez 4 (by omega) (by omega)] at hh; exact absurd hh (hw_0 (by omega))
    · exact RRR_congr (hst r (by omega)) (ho _ (by unfold rN; omega) (by unfold rN sB; omega)) (ho _ (by unfold rN rW; omega) (by unfold rW sB; omega)) (cu_rd h.1 (by omega))
  · rw [ho (mC 0 q) (by unfold mC rN; omega) (by unfold mC sB; omega)]
    exact CMR_congr (fun f f1 _ => eo f (by omega) (by omega)) (by omega) (cu_cm h.1 hq)
  · show adR G n x (cB 0 c) 2 = _ ∧ ∀ p, p < P c → adR G n x (cM 0 c) p = _
    rw [ho (cB 0 c) (by unfold cB rN; omega) (by unfold cB sB; omega), ho (cM 0 c) (by unfold cM rN; omega) (by unfold cM sB; omega)]
    exact cu_cl h.1 hc
  · refine ⟨a1, by rw [eo 0 (by omega) (by omega)]; exact a2, a3, by omega, fun r hr => ?_, fun r hr ho2 c hc => ?_⟩
    · by_cases z : r = n
      · subst z; dsimp only; rw [if_pos rfl]; exact ⟨e0, Nat.le_refl k⟩
      · dsimp only; rw [if_neg z, hst r (by omega) 0 (by omega)]; exact a5 r (by omega)
    · by_cases z : r = n
      · subst z; dsimp only; rw [if_pos rfl]
        exact ABS_m (cu_ab h.1) hc (by have := cu_1 h.1 hc; omega)
      · dsimp only; rw [if_neg z]
        exact a6 r (by omega) (by rw [← hst r (by omega) 2 (by omega)]; exact ho2) c hc
  · exact TbS_cg (cu_tb h.1) (by omega) (fun f f1 _ => eo f (by omega) (by omega)) (fun c p hc hp => by rw [ho _ (by unfold cV rN; omega) (by unfold cV sB; omega)])
  · rw [hop]
    have := h.2.1.1
    exact ⟨by omega, by omega, hW⟩
  · intro c p hc hp
    rcases h.2.2 c p hc hp with z | ⟨r, hr, z1, z2⟩
    · exact Or.inl z
    · refine Or.inr ⟨r, by omega, by rw [hst r hr 2 (by omega)]; exact z1, ?_⟩
      dsimp only; rw [if_neg (by omega)]; exact z2
end LEV
/-! What the acts do to the numbers. -/
def payS (N : Nat → Int32) (x y : Int32) : Int32 × Option (Nat → Int32) := rdS (nZ (N 2)) x (fun r => if nI 1 ≤ y ∧ y ≤ nI 9999 then (if N (9 + 20 * r + 2) = 0 then (if nI 9999 < N (9 + 20 * r + 1) + y then (-3, none) else (N (9 + 20 * r + 1) + y, some (upd N (9 + 20 * r + 1) (N (9 + 20 * r + 1) + y)))) else (-4, none)) else (-2, none)) (-1, none)
def rentS (N : Nat → Int32) (y : Int32) : Int32 × Option (Nat → Int32) := if nI 0 ≤ y ∧ y ≤ nI 99 then (if y = N 4 then (-5, none) else (N 4, some (upd N 4 y))) else (-2, none)
def skewS (N : Nat → Int32) (y : Int32) : Int32 × Option (Nat → Int32) := if y = N 7 then (-5, none) else (nI (cn (fun q => cn (swM (upd N 7 y) q) q) (nZ (N 6))), some (upd N 7 y))
def widS (N : Nat → Int32) (x y : Int32) : Int32 × Option (Nat → Int32) := rdS (nZ (N 2)) x (fun r => if nI 1 ≤ y ∧ y ≤ nI 20 then (if N (9 + 20 * r + 2) = 0 ∧ N (9 + 20 * r + 6) = 0 then (dueM N (nZ (N 8)) (nZ (N 2)) r, some (upd (upd N (9 + 20 * r + 6) (nI 1)) (9 + 20 * r + 5) y)) else (-4, none)) else (-2, none)) (-1, none)
def reaN (N : Nat → Int32) (r c : Nat) : Nat → Int32 := upd N (9 + 20 * r + 3) (N (9 + 20 * r + 3) ||| bt c)
def reaS (N : Nat → Int32) (x y : Int32) : Int32 × Option (Nat → Int32) := rdS (nZ (N 2)) x (fun r => rdS 12 y (fun c => if N (9 + 20 * r + 2) = 0 then (if hw (N (9 + 20 * r + 4)) c then (N (9 + 20 * r + (8 + c)), some N) else (reaN N r c (809 + 3 * vA (reaN N r c) (nZ (N 8)) (nI c) (reaN N r c (9 + 20 * r + 0)) + 2), some (reaN N r c))) else (-4, none)) (-1, none)) (-1, none)
def wriS (N : Nat → Int32) (x y z : Int32) : Int32 × Option (Nat → Int32) := rdS (nZ (N 2)) x (fun r => rdS 12 y (fun c => if nI 0 ≤ z ∧ z ≤ nI 9999 then (if N (9 + 20 * r + 2) = 0 then (sm (fun k => (N (9 + 20 * r + 4) ||| bt c) >>> (nI k &&& 31) &&& nI 1) 12, some (upd (upd N (9 + 20 * r + 4) (N (9 + 20 * r + 4) ||| bt c)) (9 + 20 * r + (8 + c)) z)) else (-4, none)) else (-2, none)) (-1, none)) (-1, none)
def opnN (N : Nat → Int32) (n : Nat) (y : Int32) : Nat → Int32 := fun f => if f = 2 then nI (n + 1) else if f = 9 + 20 * n + 0 then N 0 else if f = 9 + 20 * n + 1 then y else if 9 + 20 * n ≤ f ∧ f < 9 + 20 * n + 20 then 0 else N f
def opnS (N : Nat → Int32) (y : Int32) : Int32 × Option (Nat → Int32) := if nI 0 ≤ y ∧ y ≤ nI 9999 then (if nZ (N 2) = 40 ∨ 8 ≤ opn N (nZ (N 2)) then (-3, none) else (nI (nZ (N 2)), some (opnN N (nZ (N 2)) y))) else (-2, none)
def cloS (N : Nat → Int32) (x : Int32) : Int32 × Option (Nat → Int32) := rdS (nZ (N 2)) x (fun r => if N (9 + 20 * r + 2) = 0 then (nI (rmD (upd N (9 + 20 * r + 2) (nI 2)) (nZ (N 2)) (nZ (N 8)) (nZ (N 8))).2.2, some (rmN (upd N (9 + 20 * r + 2) (nI 2)) (nZ (N 2)) (nZ (N 8)))) else (-4, none)) (-1, none)
theorem ln_pay (l : Launch) {D : va_G} {τ : Nat → ClassId} {ad : Nat → Nat} (hI : kInj ad) {G : Nat → Nat → Int32} {N : Nat → Int32} {L : Nat} {Hs : Nat → Nat → Int32} {x y : Int32} (hR : RLN G N L Hs) : kM l yX6_pay cX6_pay 4 (some .int) { frames := 4, cells := 0, slots := 0, locals := 104 } D τ ad [.ref (ad 7), .int x, .int y] G (fun v G1 => PSTn G N L Hs (payS N x y) v G1) := by
  obtain ⟨⟨n, k, W, P, mo, ow, vx, hC⟩, pi, hH⟩ := hR
  obtain ⟨p1, p2, p3, p4, ⟨p5, p6, p7, p8⟩, p9, p10, p11, ⟨p12, p13, p14⟩, p15, p16, p17, p19⟩ := pre_n hC hH
  have n2 := nZ_of p15 (by omega)
  have n6 := nZ_of p16 (by omega)
  have n8 := nZ_of p12 (by omega)
  refine kM_mono (c_X6_pay l hI p1 p2 p3 p4 p5 p6 p7 p8 p9 p10) (fun v G1 hc => ?_)
  rcases rdP_yn hc with ⟨r, r1, r2, hc⟩ | ⟨r1, rfl, rfl⟩
  · obtain ⟨c1, c2, c3, -⟩ := cu_rd hC.1 r1
    try dsimp only at hc
    rw [c1, c3] at hc
    have es : payS N x y = if nI 1 ≤ y ∧ y ≤ nI 9999 then (if N (9 + 20 * r + 2) = 0 then (if nI 9999 < N (9 + 20 * r + 1) + y then (-3, none) else (N (9 + 20 * r + 1) + y, some (upd N (9 + 20 * r + 1) (N (9 + 20 * r + 1) + y)))) else (-4, none)) else (-2, none) := by unfold payS; rw [n2, rdS_h r1 p6 r2]
    by_cases z1 : nI 1 ≤ y ∧ y ≤ nI 9999
    · rw [if_pos z1] at hc es
      by_cases z2 : N (9 + 20 * r + 2) = 0
      · rw [if_pos z2] at hc es
        by_cases z3 : nI 9999 < N (9 + 20 * r + 1) + y
        · rw [if_pos z3] at hc es
          obtain ⟨rfl, rfl⟩ := hc
          exact pn_e es
        · rw [if_neg z3] at hc es
          obtain ⟨rfl, Gr, g1, rfl⟩ := hc
          have hCr := cur_r hC g1 p2 p4
          refine pn_a es (act_n hH hC g1 (fun q hq => gs_other (by unfold rN; omega)) ⟨n, k, W, P, mo, ow, vx, ?_⟩)
          refine cur_rd (r := r) hCr r1 (fun q q1 q2 => gs_other q1) (fun f hf => upd_ne (by omega)) (upd_ne (by omega)) (upd_ne (by omega)) (upd_ne (by omega)) ?_
          rw [gs_up, gs_other (show rW 0 r ≠ rN 0 r by unfold rW rN; omega)]
          exact RRR_1 (cu_rd hCr.1 r1) (Or.inl ⟨rfl, rfl⟩)
      · rw [if_neg z2] at hc es
        obtain ⟨rfl, rfl⟩ := hc
        exact pn_e es
    · rw [if_neg z1] at hc es
      obtain ⟨rfl, rfl⟩ := hc
      exact pn_e es
  · exact pn_e (by unfold payS; rw [n2, rdS_m p6 r1])
theorem ln_setRent (l : Launch) {D : va_G} {τ : Nat → ClassId} {ad : Nat → Nat} (hI : kInj ad) {G : Nat → Nat → Int32} {N : Nat → Int32} {L : Nat} {Hs : Nat → Nat → Int32} {y : Int32} (hR : RLN G N L Hs) : kM l yX6_setRent cX6_setRent 3 (some .int) { frames := 4, cells := 0, slots := 0, locals := 104 } D τ ad [.ref (ad 7), .int y] G (fun v G1 => PSTn G N L Hs (rentS N y) v G1) := by
  obtain ⟨⟨n, k, W, P, mo, ow, vx, hC⟩, pi, hH⟩ := hR
  obtain ⟨p1, p2, p3, p4, ⟨p5, p6, p7, p8⟩, p9, p10, p11, ⟨p12, p13, p14⟩, p15, p16, p17, p19⟩ := pre_n hC hH
  have n2 := nZ_of p15 (by omega)
  have n6 := nZ_of p16 (by omega)
  have n8 := nZ_of p12 (by omega)
  refine kM_mono (c_X6_setRent l hI p1 p2 p3 p4 p5 p6 p7 p8 p9 p10) (fun v G1 hc => ?_)
  obtain ⟨s1, s2, s3, s4, s5, s6, s7, s8, s9, s10, s11, s12⟩ := cu_sc hC.1
  rw [s3] at hc
  have es : rentS N y = if nI 0 ≤ y ∧ y ≤ nI 99 then (if y = N 4 then (-5, none) else (N 4, some (upd N 4 y))) else (-2, none) := rfl
  by_cases z1 : nI 0 ≤ y ∧ y ≤ nI 99
  · rw [if_pos z1] at hc es
    by_cases z2 : y = N 4
    · rw [if_pos z2] at hc es
      obtain ⟨rfl, rfl⟩ := hc
      exact pn_e es
    · rw [if_neg z2] at hc es
      obtain ⟨rfl, Gr, g1, rfl⟩ := hc
      have hCr := cur_r hC g1 p2 p4
      exact pn_a es (act_n hH hC g1 (fun q hq => gs_other (by unfold sB; omega)) ⟨n, k, W, P, mo, ow, vx, cur_s hCr (Or.inl ⟨rfl, rfl⟩)⟩)
  · rw [if_neg z1] at hc es
    obtain ⟨rfl, rfl⟩ := hc
    exact pn_e es
theorem ln_forbidSkew (l : Launch) {D : va_G} {τ : Nat → ClassId} {ad : Nat → Nat} (hI : kInj ad) {G : Nat → Nat → Int32} {N : Nat → Int32} {L : Nat} {Hs : Nat → Nat → Int32} {b : Nat} (hb1 : b ≤ 1) (hR : RLN G N L Hs) : kM l yX6_forbidSkew cX6_forbidSkew 2 (some .int) { frames := 4, cells := 0, slots := 0, locals := 104 } D τ ad [.ref (ad 7), .int (nI b)] G (fun v G1 => PSTn G N L Hs (skewS N (nI b)) v G1) := by
  obtain ⟨⟨n, k, W, P, mo, ow, vx, hC⟩, pi, hH⟩ := hR
  obtain ⟨p1, p2, p3, p4, ⟨p5, p6, p7, p8⟩, p9, p10, p11, ⟨p12, p13, p14⟩, p15, p16, p17, p19⟩ := pre_n hC hH
  have n2 := nZ_of p15 (by omega)
  have n6 := nZ_of p16 (by omega)
  have n8 := nZ_of p12 (by omega)
  refine kM_mono (c_X6_forbidSkew l hI p1 p2 p3 p4 p5 p6 p7 p8 p9 p10 hb1) (fun v G1 hc => ?_)
  obtain ⟨s1, s2, s3, s4, s5, s6, s7, s8, s9, s10, s11, s12⟩ := cu_sc hC.1
  rw [s9] at hc
  have es : skewS N (nI b) = if nI b = N 7 then (-5, none) else (nI (cn (fun q => cn (swM (upd N 7 (nI b)) q) q) k), some (upd N 7 (nI b))) := by unfold skewS; rw [n6]
  by_cases z2 : nI b = N 7
  · rw [if_pos z2] at hc es
    obtain ⟨rfl, rfl⟩ := hc
    exact pn_e es
  · rw [if_neg z2] at hc es
    obtain ⟨Gr, g1, rfl, rfl⟩ := hc
    have hCr := cur_r hC g1 p2 p4
    have hx : nI b = 0 ∨ nI b = nI 1 := by rcases (show b = 0 ∨ b = 1 by omega) with rfl | rfl; exact Or.inl rfl; exact Or.inr rfl
    have hC2 : CurR (gs Gr (sB 0) 9 (nI b)) 0 (upd N 7 (nI b)) n k W P mo ow vx := cur_s hCr (Or.inr (Or.inl ⟨rfl, rfl, hx⟩))
    exact pn_a (by rw [es, cu_pairs hC2.1]) (act_n hH hC g1 (fun q hq => gs_other (by unfold sB; omega)) ⟨n, k, W, P, mo, ow, vx, hC2⟩)
theorem ln_widow (l : Launch) {D : va_G} {τ : Nat → ClassId} {ad : Nat → Nat} (hI : kInj ad) {G : Nat → Nat → Int32} {N : Nat → Int32} {L : Nat} {Hs : Nat → Nat → Int32} {x y : Int32} (hR : RLN G N L Hs) : kM l yX6_widow cX6_widow 5 (some .int) { frames := 4, cells := 0, slots := 0, locals := 104 } D τ ad [.ref (ad 7), .int x, .int y] G (fun v G1 => PSTn G N L Hs (widS N x y) v G1) := by
  obtain ⟨⟨n, k, W, P, mo, ow, vx, hC⟩, pi, hH⟩ := hR
  obtain ⟨p1, p2, p3, p4, ⟨p5, p6, p7, p8⟩, p9, p10, p11, ⟨p12, p13, p14⟩, p15, p16, p17, p19⟩ := pre_n hC hH
  have n2 := nZ_of p15 (by omega)
  have n6 := nZ_of p16 (by omega)
  have n8 := nZ_of p12 (by omega)
  refine kM_mono (c_X6_widow l hI p1 p2 p3 p4 p5 p6 p7 p8 p9 p10 (cu_hp hC.1)) (fun v G1 hc => ?_)
  rcases rdP_yn hc with ⟨r, r1, r2, hc⟩ | ⟨r1, rfl, rfl⟩
  · obtain ⟨c1, c2, c3, c4, c5, c6, c7, c8, c9, -⟩ := cu_rd hC.1 r1
    try dsimp only at hc
    rw [c1, c8] at hc
    have es : widS N x y = if nI 1 ≤ y ∧ y ≤ nI 20 then (if N (9 + 20 * r + 2) = 0 ∧ N (9 + 20 * r + 6) = 0 then (dueM N W n r, some (upd (upd N (9 + 20 * r + 6) (nI 1)) (9 + 20 * r + 5) y)) else (-4, none)) else (-2, none) := by unfold widS; rw [n2, n8, rdS_h r1 p6 r2]
    by_cases z1 : nI 1 ≤ y ∧ y ≤ nI 20
    · rw [if_pos z1] at hc es
      by_cases z2 : N (9 + 20 * r + 2) = 0 ∧ N (9 + 20 * r + 6) = 0
      · rw [if_pos z2] at hc es
        obtain ⟨Gr, g1, rfl, rfl⟩ := hc
        have hCr := cur_r hC g1 p2 p4
        refine pn_a (by rw [es, cu_due hCr.1 r1]) (act_n hH hC g1 (fun q hq => by rw [gs_other (by unfold rN; omega), gs_other (by unfold rN; omega)]) ⟨n, k, W, P, mo, ow, vx, ?_⟩)
        obtain ⟨t, t1, rfl⟩ := nI_of2 (x := y) (M := nI 20) (n := 20) rfl (Int32.not_lt.mpr (Int32.le_trans (by decide) z1.1)) z1.2
        refine cur_rd (r := r) hCr r1 (fun q q1 q2 => by rw [gs_other q1, gs_other q1]) (fun f hf => by rw [upd_ne (by omega), upd_ne (by omega)]) (by rw [upd_ne (by omega), upd_ne (by omega)]) (by rw [upd_ne (by omega), upd_ne (by omega)]) (by rw [upd_ne (by omega), upd_ne (by omega)]) ?_
        rw [gs_up, gs_up, gs_other (show rW 0 r ≠ rN 0 r by unfold rW rN; omega), gs_other (show rW 0 r ≠ rN 0 r by unfold rW rN; omega)]
        exact RRR_w68 (cu_rd hCr.1 r1) t1
      · rw [if_neg z2] at hc es
        obtain ⟨rfl, rfl⟩ := hc
        exact pn_e es
    · rw [if_neg z1] at hc es
      obtain ⟨rfl, rfl⟩ := hc
      exact pn_e es
  · exact pn_e (by unfold widS; rw [n2, rdS_m p6 r1])
theorem ln_read (l : Launch) {D : va_G} {τ : Nat → ClassId} {ad : Nat → Nat} (hI : kInj ad) {G : Nat → Nat → Int32} {N : Nat → Int32} {L : Nat} {Hs : Nat → Nat → Int32} {x y : Int32} (hR : RLN G N L Hs) : kM l yX6_read cX6_read 4 (some .int) { frames := 4, cells := 0, slots := 0, locals := 104 } D τ ad [.ref (ad 7), .int x, .int y] G (fun v G1 => PSTn G N L Hs (reaS N x y) v G1) := by
  obtain ⟨⟨n, k, W, P, mo, ow, vx, hC⟩, pi, hH⟩ := hR
  obtain ⟨p1, p2, p3, p4, ⟨p5, p6, p7, p8⟩, p9, p10, p11, ⟨p12, p13, p14⟩, p15, p16, p17, p19⟩ := pre_n hC hH
  have n2 := nZ_of p15 (by omega)
  have n6 := nZ_of p16 (by omega)
  have n8 := nZ_of p12 (by omega)
  refine kM_mono (c_X6_read l hI p1 p2 p3 p4 p5 p6 p7 p8 p9 p10 (cu_hp hC.1)) (fun v G1 hc => ?_)
  rcases rdP_yn hc with ⟨r, r1, r2, hc⟩ | ⟨r1, rfl, rfl⟩
  · try dsimp only at hc
    rcases rdP_yn hc with ⟨c, m1, m2, hc⟩ | ⟨m1, rfl, rfl⟩
    · obtain ⟨c1, c2, c3, c4, c5, c6, c7, c8, c9, c10, c11, c12⟩ := cu_rd hC.1 r1
      try dsimp only at hc
      rw [c1, c2, c4, c5] at hc
      have es : reaS N x y = if N (9 + 20 * r + 2) = 0 then (if hw (N (9 + 20 * r + 4)) c then (N (9 + 20 * r + (8 + c)), some N) else (reaN N r c (809 + 3 * vA (reaN N r c) W (nI c) (reaN N r c (9 + 20 * r + 0)) + 2), some (reaN N r c))) else (-4, none) := by unfold reaS; rw [n2, n8, rdS_h r1 p6 r2, rdS_h m1 (by omega) m2]
      by_cases z2 : N (9 + 20 * r + 2) = 0
      · rw [if_pos z2] at hc es
        obtain ⟨Gr, g1, hc⟩ := hc
        have e0 := rcR_0 g1 p2 p4
        have hCr := cur_r hC g1 p2 p4
        by_cases z3 : hw (N (9 + 20 * r + 4)) c
        · rw [if_pos z3] at hc es
          obtain ⟨rfl, rfl⟩ := hc
          exact pn_a (by rw [es, c12 c m1 z3]) (act_n hH hC g1 (fun q hq => rfl) ⟨n, k, W, P, mo, ow, vx, hCr⟩)
        · rw [if_neg z3] at hc es
          obtain ⟨rfl, rfl⟩ := hc
          have hC2 : CurR (gs Gr (rN 0 r) 4 (N (9 + 20 * r + 3) ||| bt c)) 0 (reaN N r c) n k W P mo ow vx := by
            refine cur_rd (r := r) hCr r1 (fun q q1 q2 => gs_other q1) (fun f hf => upd_ne (by omega)) (upd_ne (by omega)) (upd_ne (by omega)) (upd_ne (by omega)) ?_
            rw [gs_up, gs_other (show rW 0 r ≠ rN 0 r by unfold rW rN; omega)]
            exact RRR_1 (cu_rd hCr.1 r1) (Or.inr (Or.inl ⟨rfl, rfl⟩))
          refine pn_a ?_ (act_n hH hC g1 (fun q hq => gs_other (by unfold rN; omega)) ⟨n, k, W, P, mo, ow, vx, hC2⟩)
          rw [es]
          have hin := ABS_f (cu_ab hC.1) r1 z2 m1
          obtain ⟨e3, e4⟩ := cu_po hC.1 r1 z2 m1
          have h10 := cu_P10 hC.1 m1
          have z2' : reaN N r c (9 + 20 * r + 2) = 0 := by unfold reaN; rw [upd_ne (by omega)]; exact z2
          rw [cu_va hC2.1 r1 z2' m1, (cu_row hC2.1 m1 hin).2.2, gs_other (by unfold cV rN; omega), e0 _ (by unfold cV; omega) (by unfold cV; omega) (by unfold cV; omega), ← c2, vsF_at e3 (by omega)]
      · rw [if_neg z2] at hc es
        obtain ⟨rfl, rfl⟩ := hc
        exact pn_e es
    · exact pn_e (by unfold reaS; rw [n2, rdS_h r1 p6 r2, rdS_m (by omega) m1])
  · exact pn_e (by unfold reaS; rw [n2, rdS_m p6 r1])
theorem ln_write (l : Launch) {D : va_G} {τ : Nat → ClassId} {ad : Nat → Nat} (hI : kInj ad) {G : Nat → Nat → Int32} {N : Nat → Int32} {L : Nat} {Hs : Nat → Nat → Int32} {x y z : Int32} (hR : RLN G N L Hs) : kM l yX6_write cX6_write 5 (some .int) { frames := 4, cells := 0, slots := 0, locals := 104 } D τ ad [.ref (ad 7), .int x, .int y, .int z] G (fun v G1 => PSTn G N L Hs (wriS N x y z) v G1) := by
  obtain ⟨⟨n, k, W, P, mo, ow, vx, hC⟩, pi, hH⟩ := hR
  obtain ⟨p1, p2, p3, p4, ⟨p5, p6, p7, p8⟩, p9, p10, p11, ⟨p12, p13, p14⟩, p15, p16, p17, p19⟩ := pre_n hC hH
  have n2 := nZ_of p15 (by omega)
  have n6 := nZ_of p16 (by omega)
  have n8 := nZ_of p12 (by omega)
  refine kM_mono (c_X6_write l hI p1 p2 p3 p4 p5 p6 p7 p8 p9 p10) (fun v G1 hc => ?_)
  rcases rdP_yn hc with ⟨r, r1, r2, hc⟩ | ⟨r1, rfl, rfl⟩
  · try dsimp only at hc
    rcases rdP_yn hc with ⟨c, m1, m2, hc⟩ | ⟨m1, rfl, rfl⟩
    · obtain ⟨c1, c2, c3, c4, c5, c6, c7, c8, c9, c10, c11, c12⟩ := cu_rd hC.1 r1
      try dsimp only at hc
      rw [c1, c5] at hc
      have es : wriS N x y z = if nI 0 ≤ z ∧ z ≤ nI 9999 then (if N (9 + 20 * r + 2) = 0 then (sm (fun k => (N (9 + 20 * r + 4) ||| bt c) >>> (nI k &&& 31) &&& nI 1) 12, some (upd (upd N (9 + 20 * r + 4) (N (9 + 20 * r + 4) ||| bt c)) (9 + 20 * r + (8 + c)) z)) else (-4, none)) else (-2, none) := by unfold wriS; rw [n2, rdS_h r1 p6 r2, rdS_h m1 (by omega) m2]
      by_cases z1 : nI 0 ≤ z ∧ z ≤ nI 9999
      · rw [if_pos z1] at hc es
        by_cases z2 : N (9 + 20 * r + 2) = 0
        · rw [if_pos z2] at hc es
          obtain ⟨Gr, g1, rfl, rfl⟩ := hc
          have e0 := rcR_0 g1 p2 p4
          have hCr := cur_r hC g1 p2 p4
          have hs12 : sml (N (9 + 20 * r + 4) ||| bt c) 12 := sml_or (by omega) c10 (sml_bt m1 (by omega))
          refine pn_a (by rw [es, bc_ones hs12]) (act_n hH hC g1 (fun q hq => by rw [gs_other (by unfold rN; omega), gs_other (by unfold rW; omega)]) ⟨n, k, W, P, mo, ow, vx, ?_⟩)
          refine cur_rd (r := r) hCr r1 (fun q q1 q2 => by rw [gs_other q1, gs_other q2]) (fun f hf => by rw [upd_ne (by omega), upd_ne (by omega)]) (by rw [upd_ne (by omega), upd_ne (by omega)]) (by rw [upd_ne (by omega), upd_ne (by omega)]) (by rw [upd_ne (by omega), upd_ne (by omega)]) ?_
          have hw1 := RRR_w (z := z) (cu_rd hCr.1 r1) m1
          have ew : Gr (rN 0 r) 5 = N (9 + 20 * r + 4) := (cu_rd hCr.1 r1).2.2.2.2.1
          rw [gs_up, gs_other (show rN 0 r ≠ rW 0 r by unfold rW rN; omega), gs_other (show rW 0 r ≠ rN 0 r by unfold rW rN; omega), gs_up]
          rw [ew] at hw1
          exact hw1
        · rw [if_neg z2] at hc es
          obtain ⟨rfl, rfl⟩ := hc
          exact pn_e es
      · rw [if_neg z1] at hc es
        obtain ⟨rfl, rfl⟩ := hc
        exact pn_e es
    · exact pn_e (by unfold wriS; rw [n2, rdS_h r1 p6 r2, rdS_m (by omega) m1])
  · exact pn_e (by unfold wriS; rw [n2, rdS_m p6 r1])
theorem ln_open (l : Launch) {D : va_G} {τ : Nat → ClassId} {ad : Nat → Nat} (hI : kInj ad) {G : Nat → Nat → Int32} {N : Nat → Int32} {L : Nat} {Hs : Nat → Nat → Int32} {y : Int32} (hR : RLN G N L Hs) : kM l yX6_open cX6_open 2 (some .int) { frames := 4, cells := 0, slots := 0, locals := 104 } D τ ad [.ref (ad 7), .int y] G (fun v G1 => PSTn G N L Hs (opnS N y) v G1) := by
  obtain ⟨⟨n, k, W, P, mo, ow, vx, hC⟩, pi, hH⟩ := hR
  obtain ⟨p1, p2, p3, p4, ⟨p5, p6, p7, p8⟩, p9, p10, p11, ⟨p12, p13, p14⟩, p15, p16, p17, p19⟩ := pre_n hC hH
  have n2 := nZ_of p15 (by omega)
  have n6 := nZ_of p16 (by omega)
  have n8 := nZ_of p12 (by omega)
  refine kM_mono (c_X6_open l hI p1 p2 p3 p4 p5 p6 p7 p8 p9 p10) (fun v G1 hc => ?_)
  rw [an_states hC.1] at hc
  have es : opnS N y = if nI 0 ≤ y ∧ y ≤ nI 9999 then (if n = 40 ∨ 8 ≤ opn N n then (-3, none) else (nI n, some (opnN N n y))) else (-2, none) := by unfold opnS; rw [n2]
  by_cases z1 : nI 0 ≤ y ∧ y ≤ nI 9999
  · rw [if_pos z1] at hc es
    have hc : if n = 40 ∨ 8 ≤ opn N n then v = -3 ∧ G1 = G else ∃ Gr, rcR G Gr pi L n k ∧ v = nI n ∧ G1 = adR Gr n y := hc
    by_cases z2 : n = 40 ∨ 8 ≤ opn N n
    · rw [if_pos z2] at hc es
      obtain ⟨rfl, rfl⟩ := hc
      exact pn_e es
    · rw [if_neg z2] at hc es
      obtain ⟨Gr, g1, rfl, rfl⟩ := hc
      have hfr0 : ∀ q, q ≠ rN 0 n → q ≠ sB 0 → adR Gr n y q = Gr q := fun q h1 h2 => by
        unfold adR
        rw [gs_other h2, gs_other h1, gs_other h1, gs_other h1, gs_other h1, gs_other h1, gs_other h1, gs_other h1, gs_other h1]
      have hCr := cur_r hC g1 p2 p4
      refine pn_a es (act_n hH hC g1 (fun q hq => hfr0 q (by unfold rN; omega) (by unfold sB; omega)) ⟨n + 1, k, W, P, mo, fun r => if r = n then k else ow r, vx, ?_⟩)
      refine cur_open hCr (by omega) (by omega) ?_ ?_ ?_ (fun f f1 f2 => ?_) (fun f f1 f2 => ?_)
      · unfold opnN; rw [if_pos rfl]
      · unfold opnN; rw [if_neg (by omega), if_pos rfl]; exact p17
      · unfold opnN; rw [if_neg (by omega), if_neg (by omega), if_pos rfl]
      · unfold opnN; rw [if_neg (by omega), if_neg (by omega), if_neg (by omega), if_pos (by omega)]
      · unfold opnN; rw [if_neg f1, if_neg (by omega), if_neg (by omega), if_neg (by omega)]
  · rw [if_neg z1] at hc es
    obtain ⟨rfl, rfl⟩ := hc
    exact pn_e es
theorem ln_close (l : Launch) {D : va_G} {τ : Nat → ClassId} {ad : Nat → Nat} (hI : kInj ad) {G : Nat → Nat → Int32} {N : Nat → Int32} {L : Nat} {Hs : Nat → Nat → Int32} {x : Int32} (hR : RLN G N L Hs) : kM l yX6_close cX6_close 3 (some .int) { frames := 4, cells := 0, slots := 0, locals := 104 } D τ ad [.ref (ad 7), .int x] G (fun v G1 => PSTn G N L Hs (cloS N x) v G1) := by
  obtain ⟨⟨n, k, W, P, mo, ow, vx, hC⟩, pi, hH⟩ := hR
  obtain ⟨p1, p2, p3, p4, ⟨p5, p6, p7, p8⟩, p9, p10, p11, ⟨p12, p13, p14⟩, p15, p16, p17, p19⟩ := pre_n hC hH
  have n2 := nZ_of p15 (by omega)
  have n6 := nZ_of p16 (by omega)
  have n8 := nZ_of p12 (by omega)
  refine kM_mono (c_X6_close l hI p1 p2 p3 p4 p5 p6 p7 p8 p9 p10 (cu_hp hC.1)) (fun v G1 hc => ?_)
  rcases rdP_yn hc with ⟨r, r1, r2, hc⟩ | ⟨r1, rfl, rfl⟩
  · obtain ⟨c1, c2, c3, c4, c5, c6, c7, c8, c9, c10, c11, c12⟩ := cu_rd hC.1 r1
    try dsimp only at hc
    rw [c1] at hc
    have es : cloS N x = if N (9 + 20 * r + 2) = 0 then (nI (rmD (upd N (9 + 20 * r + 2) (nI 2)) n W W).2.2, some (rmN (upd N (9 + 20 * r + 2) (nI 2)) n W)) else (-4, none) := by unfold cloS; rw [n2, n8, rdS_h r1 p6 r2]
    by_cases z2 : N (9 + 20 * r + 2) = 0
    · rw [if_pos z2] at hc es
      obtain ⟨Gr, g1, hc⟩ := hc
      have hCr := cur_r hC g1 p2 p4
      have hL0 := cur_leave (x := nI 2) hCr r1 (by decide)
      have hop := opn_leave (x := nI 2) r1 z2 (by decide)
      have hbb := hC.2.1
      have hV : (rmD (upd N (9 + 20 * r + 2) (nI 2)) n W W).2.1 ≤ W := by
        obtain ⟨P', mo', vx', -, -, -, -, a5⟩ := rv_all hL0 (by omega) p8 hc
        exact a5
      obtain ⟨⟨P', mo', vx', hC2⟩, hv, -⟩ := cur_rm hL0 ⟨by omega, by omega⟩ (by omega) hc (by omega)
      have hG1 : ∀ q, q < 14 ∨ 175 ≤ q → G1 q = Gr q := fun q hq => by
        rw [hc.2.2.2.2 q (by unfold sB; omega) (fun c hc => ⟨by unfold cB; omega, by unfold cV; omega, by unfold cM; omega⟩), gs_other (by unfold rN; omega)]
      exact pn_a (by rw [es, hv]) (act_n hH hC g1 hG1 ⟨n, k, _, P', mo', ow, vx', hC2⟩)
    · rw [if_neg z2] at hc es
      obtain ⟨rfl, rfl⟩ := hc
      exact pn_e es
  · exact pn_e (by unfold cloS; rw [n2, rdS_m p6 r1])
