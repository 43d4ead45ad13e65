/-! One tick keeps the relation. -/
theorem row_step {row wr N M : Nat → Int32} {r : Nat} {d : Int32} (h : RRR row wr N r) (hM : ∀ f, f < 20 → M (9 + 20 * r + f) = pyRow (fun f => N (9 + 20 * r + f)) d f) : RRR (stR (tdR row d)) wr M r := by
  obtain ⟨c1, c2, c3, c4, c5, c6, c7, c8, c9, c10, ⟨t, t1, t2⟩, c12⟩ := h
  unfold pyRow at hM
  dsimp only at hM
  by_cases ho : N (9 + 20 * r + 2) = 0
  · rcases Nat.eq_zero_or_pos t with z | z
    · have e5 : N (9 + 20 * r + 5) = 0 := by rw [t2, z]; rfl
      have hp : N (9 + 20 * r + 2) = 0 ∧ ¬ 0 < N (9 + 20 * r + 5) := ⟨ho, by rw [e5]; decide⟩
      have hr16 : row 1 = 0 ∧ row 6 = 0 := ⟨by rw [c1, ho], by rw [c6, e5]⟩
      by_cases hd : d ≤ N (9 + 20 * r + 1)
      · have m : ∀ f, f < 20 → M (9 + 20 * r + f) = if f = 1 then N (9 + 20 * r + 1) - d else if f = 7 then N (9 + 20 * r + 7) + d else N (9 + 20 * r + f) := fun f hf => by rw [hM f hf, if_pos hp, if_pos hd]
        have mo : ∀ f, f < 20 → f ≠ 1 → f ≠ 7 → M (9 + 20 * r + f) = N (9 + 20 * r + f) := fun f hf h1 h7 => by rw [m f hf, if_neg h1, if_neg h7]
        have er : stR (tdR row d) = upd (upd row 3 (row 3 - d)) 7 (row 7 + d) := by
          unfold tdR
          rw [if_pos hr16, if_pos (by rw [c3]; exact hd)]
          unfold stR
          rw [if_neg]
          rintro ⟨-, w⟩
          rw [upd_ne (by omega), upd_ne (by omega), hr16.2] at w
          exact absurd w (by decide)
        rw [er]
        have u : ∀ f, f ≠ 3 → f ≠ 7 → upd (upd row 3 (row 3 - d)) 7 (row 7 + d) f = row f := fun f h3 h7 => by rw [upd_ne h7, upd_ne h3]
        exact ⟨by rw [u 1 (by omega) (by omega), mo 2 (by omega) (by omega) (by omega)]; exact c1, by rw [u 2 (by omega) (by omega), mo 0 (by omega) (by omega) (by omega)]; exact c2, by rw [upd_ne (by omega), upd_eq, m 1 (by omega), if_pos rfl, c3], by rw [u 4 (by omega) (by omega), mo 3 (by omega) (by omega) (by omega)]; exact c4, by rw [u 5 (by omega) (by omega), mo 4 (by omega) (by omega) (by omega)]; exact c5, by rw [u 6 (by omega) (by omega), mo 5 (by omega) (by omega) (by omega)]; exact c6, by rw [upd_eq, m 7 (by omega), if_neg (by omega), if_pos rfl, c7], by rw [u 8 (by omega) (by omega), mo 6 (by omega) (by omega) (by omega)]; exact c8, by rw [mo 6 (by omega) (by omega) (by omega)]; exact c9, by rw [mo 4 (by omega) (by omega) (by omega)]; exact c10, ⟨t, t1, by rw [mo 5 (by omega) (by omega) (by omega)]; exact t2⟩, fun c hc hh => by rw [mo 4 (by omega) (by omega) (by omega)] at hh; rw [mo (8 + c) (by omega) (by omega) (by omega)]; exact c12 c hc hh⟩
      · have m : ∀ f, f < 20 → M (9 + 20 * r + f) = if f = 2 then nI 3 else N (9 + 20 * r + f) := fun f hf => by rw [hM f hf, if_pos hp, if_neg hd]
        have mo : ∀ f, f < 20 → f ≠ 2 → M (9 + 20 * r + f) = N (9 + 20 * r + f) := fun f hf h1 => by rw [m f hf, if_neg h1]
        have er : stR (tdR row d) = upd row 1 3 := by
          unfold tdR
          rw [if_pos hr16, if_neg (by rw [c3]; exact hd)]
          unfold stR
          rw [if_neg]
          rintro ⟨w, -⟩
          rw [upd_eq] at w
          exact absurd w (by decide)
        rw [er]
        have u : ∀ f, f ≠ 1 → upd row 1 3 f = row f := fun f h3 => upd_ne h3
        exact ⟨by rw [upd_eq, m 2 (by omega), if_pos rfl]; rfl, by rw [u 2 (by omega), mo 0 (by omega) (by omega)]; exact c2, by rw [u 3 (by omega), mo 1 (by omega) (by omega)]; exact c3, by rw [u 4 (by omega), mo 3 (by omega) (by omega)]; exact c4, by rw [u 5 (by omega), mo 4 (by omega) (by omega)]; exact c5, by rw [u 6 (by omega), mo 5 (by omega) (by omega)]; exact c6, by rw [u 7 (by omega), mo 7 (by omega) (by omega)]; exact c7, by rw [u 8 (by omega), mo 6 (by omega) (by omega)]; exact c8, by rw [mo 6 (by omega) (by omega)]; exact c9, by rw [mo 4 (by omega) (by omega)]; exact c10, ⟨t, t1, by rw [mo 5 (by omega) (by omega)]; exact t2⟩, fun c hc hh => by rw [mo 4 (by omega) (by omega)] at hh; rw [mo (8 + c) (by omega) (by omega)]; exact c12 c hc hh⟩
    · have hlt : 0 < N (9 + 20 * r + 5) := by rw [t2]; exact nI_lt (a := 0) z (by omega)
      have hp : ¬ (N (9 + 20 * r + 2) = 0 ∧ ¬ 0 < N (9 + 20 * r + 5)) := fun w => w.2 hlt
      have m : ∀ f, f < 20 → M (9 + 20 * r + f) = if f = 5 then N (9 + 20 * r + 5) - nI 1 else N (9 + 20 * r + f) := fun f hf => by rw [hM f hf, if_neg hp, if_pos ho]
      have mo : ∀ f, f < 20 → f ≠ 5 → M (9 + 20 * r + f) = N (9 + 20 * r + f) := fun f hf h1 => by rw [m f hf, if_neg h1]
      have er : stR (tdR row d) = upd row 6 (row 6 - nI 1) := by
        unfold tdR
        rw [if_neg (fun w => by rw [c6, t2] at w; exact nI_ne0 z (by omega) w.2)]
        unfold stR
        rw [if_pos ⟨by rw [c1, ho], by rw [c6]; exact hlt⟩]
      rw [er]
      have u : ∀ f, f ≠ 6 → upd row 6 (row 6 - nI 1) f = row f := fun f h3 => upd_ne h3
      exact ⟨by rw [u 1 (by omega), mo 2 (by omega) (by omega)]; exact c1, by rw [u 2 (by omega), mo 0 (by omega) (by omega)]; exact c2, by rw [u 3 (by omega), mo 1 (by omega) (by omega)]; exact c3, by rw [u 4 (by omega), mo 3 (by omega) (by omega)]; exact c4, by rw [u 5 (by omega), mo 4 (by omega) (by omega)]; exact c5, by rw [upd_eq, m 5 (by omega), if_pos rfl, c6], by rw [u 7 (by omega), mo 7 (by omega) (by omega)]; exact c7, by rw [u 8 (by omega), mo 6 (by omega) (by omega)]; exact c8, by rw [mo 6 (by omega) (by omega)]; exact c9, by rw [mo 4 (by omega) (by omega)]; exact c10, ⟨t - 1, by omega, by rw [m 5 (by omega), if_pos rfl, t2, pk_sub z]⟩, fun c hc hh => by rw [mo 4 (by omega) (by omega)] at hh; rw [mo (8 + c) (by omega) (by omega)]; exact c12 c hc hh⟩
  · have m : ∀ f, f < 20 → M (9 + 20 * r + f) = N (9 + 20 * r + f) := fun f hf => by rw [hM f hf, if_neg (fun w => ho w.1), if_neg ho]
    have er : stR (tdR row d) = row := by
      unfold tdR
      rw [if_neg (fun w => ho (by rw [← c1]; exact w.1))]
      unfold stR
      rw [if_neg (fun w => ho (by rw [← c1]; exact w.1))]
    rw [er]
    exact RRR_congr m rfl rfl ⟨c1, c2, c3, c4, c5, c6, c7, c8, c9, c10, ⟨t, t1, t2⟩, c12⟩
section STEP
variable {G G5 : Nat → Nat → Int32} {j : Nat} {N : Nat → Int32} {n k W : Nat} {P : Nat → Nat} {mo : Nat → Nat → Nat} {ow : Nat → Nat} {vx : Nat → Nat → Nat}
/-- what a tick's payments leave of a reader: open only if it was -/
theorem py_state (R : Nat → Int32) (d : Int32) : pyRow R d 2 = (if (R 2 = 0 ∧ ¬ 0 < R 5) ∧ ¬ d ≤ R 1 then nI 3 else R 2) ∧ pyRow R d 0 = R 0 := by
  by_cases z1 : R 2 = 0 ∧ ¬ 0 < R 5
  · by_cases z2 : d ≤ R 1
    · have z3 : ¬ ((R 2 = 0 ∧ ¬ 0 < R 5) ∧ ¬ d ≤ R 1) := fun w => w.2 z2
      unfold pyRow
      exact ⟨by rw [if_pos z1, if_pos z2, if_neg (show ¬ (2 : Nat) = 1 by omega), if_neg (show ¬ (2 : Nat) = 7 by omega), if_neg z3], by rw [if_pos z1, if_pos z2, if_neg (show ¬ (0 : Nat) = 1 by omega), if_neg (show ¬ (0 : Nat) = 7 by omega)]⟩
    · have z3 : (R 2 = 0 ∧ ¬ 0 < R 5) ∧ ¬ d ≤ R 1 := ⟨z1, z2⟩
      unfold pyRow
      exact ⟨by rw [if_pos z1, if_neg z2, if_pos (show (2 : Nat) = 2 from rfl), if_pos z3], by rw [if_pos z1, if_neg z2, if_neg (show ¬ (0 : Nat) = 2 by omega)]⟩
  · have z3 : ¬ ((R 2 = 0 ∧ ¬ 0 < R 5) ∧ ¬ d ≤ R 1) := fun w => z1 w.1
    unfold pyRow
    by_cases z2 : R 2 = 0
    · exact ⟨by rw [if_neg z1, if_pos z2, if_neg (show ¬ (2 : Nat) = 5 by omega), if_neg z3], by rw [if_neg z1, if_pos z2, if_neg (show ¬ (0 : Nat) = 5 by omega)]⟩
    · exact ⟨by rw [if_neg z1, if_neg z2, if_neg z3], by rw [if_neg z1, if_neg z2]⟩
set_option maxHeartbeats 2000000 in
theorem tick_step {dc dc' : Int32} (h : CurR G j N n k W P mo ow vx) (hd : dc = 0 → ∀ r, r < n → G (sD j) r = dueM N W n r) (ht : TKS G G5 j n P dc dc') :
    ∃ W2 P2 mo2 vx2, CurR G5 j (tkN N W n) n k W2 P2 mo2 ow vx2 ∧ W2 = (rmD (paidN N W n) n W W).2.1 ∧ (dc' = 0 → ∀ r, r < n → G5 (sD j) r = dueM (tkN N W n) W2 n r) ∧ (∀ q, (q < sB j ∨ sB j + 161 ≤ q) → G5 q = G q) ∧ cn (fun r => if tkN N W n (9 + 20 * r + 2) = nI 3 then 1 else 0) n = cn (fun r => if N (9 + 20 * r + 2) = nI 3 then 1 else 0) n + (pyA N (dueM N W n) n).2 ∧ tkN N W n 1 = N 1 + nI 1 := by
  obtain ⟨G1, G2, G3, G4, v1, v2, t1, t2, t3, t4, rfl, t6⟩ := ht
  have hn4 := (cu_ab h.1).2.2.2.1
  have hk4 : k ≤ 40 := by have := h.2.1.1; omega
  have hW := h.2.1.2.2
  obtain ⟨M, eM⟩ : ∃ z, z = (pyA N (dueM N W n) n).1 := ⟨_, rfl⟩
  have eM2 : paidN N W n = M := eM.symm
  have hM : ∀ r, r < n → ∀ f, f < 20 → M (9 + 20 * r + f) = pyRow (fun f => N (9 + 20 * r + f)) (dueM N W n r) f := fun r hr f hf => by rw [eM]; exact (pyA_row N _ hf n).2 hr
  have hlo : ∀ f, f ≠ 5 → f < 9 ∨ 809 ≤ f → M f = N f := fun f h5 hf => by rw [eM]; exact pyA_lo N _ n f hn4 h5 hf
  have hdue : ∀ r, r < n → G1 (sD j) r = dueM N W n r := fun r hr => by
    by_cases z : dc = 0
    · have := t1.2
      rw [if_pos z] at this
      rw [this]; exact hd z r hr
    · have := t1.2
      rw [if_neg z] at this
      rw [this r hr]; exact cu_due h.1 hr
  have f1 : ∀ r, r < n → G1 (rN j r) = G (rN j r) := fun r hr => t1.1 _ (by unfold rN sD; omega)
  have hrow : ∀ r, r < n → G3 (rN j r) = stR (tdR (G (rN j r)) (dueM N W n r)) := fun r hr => by
    rw [t3.2.2 r hr, t2.2.2 r hr, f1 r hr, hdue r hr]
  have hfr : ∀ q, q ≠ sD j → (∀ r, r < n → q ≠ rN j r) → G3 q = G q := fun q q1 q2 => by rw [t3.2.1 q q2, t2.2.1 q q2, t1.1 q q1]
  have hD3 : ∀ r, r < n → G3 (sD j) r = dueM N W n r := fun r hr => by
    rw [t3.2.1 _ (fun r hr => by unfold sD rN; omega), t2.2.1 _ (fun r hr => by unfold sD rN; omega)]; exact hdue r hr
  -- who goes
  have hev : v1 = 0 ↔ (pyA N (dueM N W n) n).2 = 0 := by
    have e : cn (evN G1 j) n = (pyA N (dueM N W n) n).2 := by
      rw [pyA_2]
      refine cn_congr (fun r hr => ?_)
      obtain ⟨c1, c2, c3, c4, c5, c6, -⟩ := cu_rd h.1 hr
      unfold evN
      rw [f1 r hr, hdue r hr, c1, c3, c6]
      exact ite_cg (by rw [cu_tm h.1 hr]) rfl rfl
    rw [t2.1, fl, e]
    constructor
    · intro w
      refine Classical.byContradiction (fun q => ?_)
      rw [if_pos q] at w
      exact absurd w (by decide)
    · intro w; rw [if_neg (fun q => q w)]
  have hst2 : ∀ r, r < n → M (9 + 20 * r + 2) = if (N (9 + 20 * r + 2) = 0 ∧ ¬ 0 < N (9 + 20 * r + 5)) ∧ ¬ dueM N W n r ≤ N (9 + 20 * r + 1) then nI 3 else N (9 + 20 * r + 2) := fun r hr => by
    rw [hM r hr 2 (by omega), (py_state _ _).1]
  have hop : ∀ r, r < n → M (9 + 20 * r + 2) = 0 → N (9 + 20 * r + 2) = 0 := fun r hr w => by
    rw [hst2 r hr] at w
    split at w
    · exact absurd w (by decide)
    · exact w
  have hown : ∀ r, r < n → M (9 + 20 * r + 0) = N (9 + 20 * r + 0) := fun r hr => by rw [hM r hr 0 (by omega), (py_state _ _).2]
  have hA : ABS M n k P mo ow := by
    obtain ⟨a1, a2, a3, a4, a5, a6⟩ := cu_ab h.1
    exact ⟨a1, by rw [hlo 0 (by omega) (by omega)]; exact a2, a3, a4, fun r hr => by rw [hown r hr]; exact a5 r hr, fun r hr ho => a6 r hr (hop r hr ho)⟩
  obtain ⟨s1, s2, s3, s4, s5, s6, s7, s8, s9, s10, s11, s12⟩ := cu_sc h.1
  have hsB : G3 (sB j) = G (sB j) := hfr _ (by unfold sB sD; omega) (fun r hr => by unfold sB rN; omega)
  have hC0 : Cur0 G3 j M n k W P mo ow vx := by
    refine ⟨⟨by rw [hsB]; exact s1, by rw [hsB, hlo 1 (by omega) (by omega)]; exact s2, by rw [hsB, hlo 4 (by omega) (by omega)]; exact s3, by rw [hsB]; exact s4, by rw [hlo 2 (by omega) (by omega)]; exact s5, by rw [hsB]; exact s6, by rw [hlo 6 (by omega) (by omega)]; exact s7, by rw [hsB, hlo 3 (by omega) (by omega)]; exact s8, by rw [hsB, hlo 7 (by omega) (by omega)]; exact s9, by rw [hlo 7 (by omega) (by omega)]; exact s10, by rw [hlo 8 (by omega) (by omega)]; exact s11, ?_⟩, fun r hr => ?_, fun q hq => ?_, fun c hc => ?_, hA, TbS_cg (cu_tb h.1) (by omega) (fun f f1 _ => hlo f (by omega) (by omega)) (fun c p hc hp => by rw [hfr _ (by unfold cV sD; omega) (fun r hr => by unfold cV rN; omega)])⟩
    · rw [eM, pyA_5, s12, ← sm_add, ← eM]
      refine sm_congr (fun r hr => ?_)
      rw [hM r hr 7 (by omega), Int32.add_comm, Int32.sub_add_cancel]
    · rw [hrow r hr, hfr (rW j r) (by unfold rW sD; omega) (fun t ht => by unfold rW rN; omega)]
      exact row_step (cu_rd h.1 hr) (hM r hr)
    · rw [hfr (mC j q) (by unfold mC sD; omega) (fun t ht => by unfold mC rN; omega)]
      exact CMR_congr (fun f f1 _ => hlo f (by omega) (by omega)) (by omega) (cu_cm h.1 hq)
    · show G3 (cB j c) 2 = _ ∧ ∀ p, p < P c → G3 (cM j c) p = _
      rw [hfr (cB j c) (by unfold cB sD; omega) (fun t ht => by unfold cB rN; omega), hfr (cM j c) (by unfold cM sD; omega) (fun t ht => by unfold cM rN; omega)]
      exact cu_cl h.1 hc
  have hopn : opn M n ≤ opn N n := rm_mono (fun r hr => by
    by_cases w : M (9 + 20 * r + 2) = 0
    · rw [if_pos w, if_pos (hop r hr w)]; exact Nat.le_refl _
    · rw [if_neg w]; omega)
  have hbb := h.2.1
  -- what is unseen goes
  have hmid : ∃ W2 P2 mo2 vx2, CurR G4 j (rmN M n W) n k W2 P2 mo2 ow vx2 ∧ W2 = (rmD M n W W).2.1 ∧ (∀ q, q ≠ sB j → (∀ c, c < 12 → q ≠ cB j c ∧ q ≠ cV j c ∧ q ≠ cM j c) → G4 q = G3 q) ∧ (∀ f, f ≠ 8 → f ≠ 3 → f < 809 ∨ 1001 ≤ f → rmN M n W f = M f) ∧ (v1 = 0 → rmN M n W = M ∧ W2 = W ∧ G4 = G3) := by
    have t4' := t4
    unfold RUR at t4'
    by_cases z : v1 = 0
    · rw [if_pos z] at t4'
      subst t4'
      have hz := hev.mp z
      rw [pyA_2] at hz
      have hne : ∀ r, r < n → ¬ ((N (9 + 20 * r + 2) = 0 ∧ ¬ 0 < N (9 + 20 * r + 5)) ∧ ¬ dueM N W n r ≤ N (9 + 20 * r + 1)) := fun r hr w => cn_pos hr (by rw [if_pos w]; omega) hz
      have hs : ∀ r, r < n → M (9 + 20 * r + 2) = N (9 + 20 * r + 2) := fun r hr => by rw [hst2 r hr, if_neg (hne r hr)]
      have hK : ∀ c p, c < 12 → p < P c → KP M n P mo ow c p := fun c p hc hp => KP_cg hs (h.2.2 c p hc hp)
      obtain ⟨q1, q2⟩ := rmN_none hC0 hK
      rw [q1, q2]
      exact ⟨W, P, mo, vx, ⟨hC0, ⟨by omega, by omega, by omega⟩, hK⟩, rfl, fun _ _ _ => rfl, fun _ _ _ _ => rfl, fun _ => ⟨rfl, rfl, rfl⟩⟩
    · rw [if_neg z] at t4'
      obtain ⟨v, hv⟩ := t4'
      obtain ⟨P', mo', vx', -, -, -, a4, a5⟩ := rv_all hC0 (by omega) hk4 hv
      obtain ⟨⟨P2, mo2, vx2, b1⟩, -, -⟩ := cur_rm hC0 ⟨by omega, by omega⟩ (by omega) hv (by omega)
      exact ⟨_, P2, mo2, vx2, b1, rfl, hv.2.2.2.2, a4, fun w => absurd w z⟩
  obtain ⟨W2, P2, mo2, vx2, m1, m2, m3, m4, m5⟩ := hmid
  have htk : tkN N W n = upd (rmN M n W) 1 (rmN M n W 1 + nI 1) := by unfold tkN; rw [eM2]
  have hG41 : G4 (sB j) 4 = rmN M n W 1 := (cu_sc m1.1).2.1
  refine ⟨W2, P2, mo2, vx2, ?_, by rw [eM2]; exact m2, fun w => ?_, fun q hq => ?_, ?_, ?_⟩
  · rw [htk, hG41]
    exact cur_s m1 (Or.inr (Or.inr ⟨rfl, rfl⟩))
  · rw [t6] at w
    have hv : v1 = 0 ∧ v2 = 0 := Classical.byContradiction (fun q => by rw [if_neg q] at w; exact absurd w (by decide))
    obtain ⟨e1, e2, e3⟩ := m5 hv.1
    intro r hr
    rw [gs_other (by unfold sD sB; omega), e3, hD3 r hr, htk, e1, e2]
    have hz := hev.mp hv.1
    rw [pyA_2] at hz
    have hne : ∀ r, r < n → ¬ ((N (9 + 20 * r + 2) = 0 ∧ ¬ 0 < N (9 + 20 * r + 5)) ∧ ¬ dueM N W n r ≤ N (9 + 20 * r + 1)) := fun r hr w => cn_pos hr (by rw [if_pos w]; omega) hz
    have hte : ∀ r, r < n → ¬ ((G2 (rN j r) 1 = 0 ∧ 0 < G2 (rN j r) 6) ∧ G2 (rN j r) 6 - nI 1 = 0) := fun r hr w => by
      have := hv.2
      rw [t3.1, fl] at this
      have q : cn (teN G2 j) n ≠ 0 := cn_pos hr (by unfold teN; rw [if_pos w]; omega)
      rw [if_pos q] at this
      exact absurd this (by decide)
    symm
    refine dueM_cg (by omega) hr (by rw [upd_ne (by omega)]; exact hlo 0 (by omega) (by omega)) (by rw [upd_ne (by omega)]; exact hlo 4 (by omega) (by omega)) (fun f f1 _ => by rw [upd_ne (by omega)]; exact hlo f (by omega) (by omega)) (fun t ht => ⟨by rw [upd_ne (by omega), hst2 t ht, if_neg (hne t ht)], by rw [upd_ne (by omega)]; exact hown t ht, ?_⟩)
    rw [upd_ne (by omega), hM t ht 5 (by omega)]
    obtain ⟨c1, c2, c3, c4, c5, c6, c7, c8, c9, c10, ⟨x, x1, x2⟩, c12⟩ := cu_rd h.1 ht
    unfold pyRow
    dsimp only
    by_cases z1 : N (9 + 20 * t + 2) = 0 ∧ ¬ 0 < N (9 + 20 * t + 5)
    · rw [if_pos z1, if_pos (Classical.not_not.mp (fun q => hne t ht ⟨z1, q⟩)), if_neg (by omega), if_neg (by omega)]
    · rw [if_neg z1]
      by_cases z2 : N (9 + 20 * t + 2) = 0
      · rw [if_pos z2, if_pos rfl]
        have hlt : 0 < N (9 + 20 * t + 5) := Classical.not_not.mp (fun q => z1 ⟨z2, q⟩)
        have hx0 : x ≠ 0 := fun q => by rw [x2, q] at hlt; exact absurd hlt (by decide)
        have hrow2 : G2 (rN j t) = G (rN j t) := by
          rw [t2.2.2 t ht, f1 t ht]
          unfold tdR
          rw [if_neg (fun q => by rw [c6, x2] at q; exact nI_ne0 (by omega) (by omega) q.2)]
        have h3 := hte t ht
        rw [hrow2, c1, c6] at h3
        have h4 : ¬ N (9 + 20 * t + 5) - nI 1 = 0 := fun q => h3 ⟨⟨z2, hlt⟩, q⟩
        refine ⟨fun _ => hlt, fun _ => ?_⟩
        rw [x2, pk_sub (by omega)] at h4 ⊢
        refine nI_lt (a := 0) ?_ (by omega)
        rcases Nat.eq_zero_or_pos (x - 1) with q | q
        · rw [q] at h4; exact absurd rfl h4
        · exact q
      · rw [if_neg z2]
  · rw [gs_other (by unfold sB at hq ⊢; omega), m3 q (by unfold sB at hq ⊢; omega) (fun c hc => ⟨by unfold sB at hq; unfold cB; omega, by unfold sB at hq; unfold cV; omega, by unfold sB at hq; unfold cM; omega⟩)]
    exact hfr q (by unfold sB at hq; unfold sD; omega) (fun r hr => by unfold sB at hq; unfold rN; omega)
  · rw [pyA_2, ← rm_add, htk]
    refine cn_congr (fun r hr => ?_)
    rw [upd_ne (by omega), m4 _ (by omega) (by omega) (Or.inl (by omega)), hst2 r hr]
    by_cases z : (N (9 + 20 * r + 2) = 0 ∧ ¬ 0 < N (9 + 20 * r + 5)) ∧ ¬ dueM N W n r ≤ N (9 + 20 * r + 1)
    · rw [if_pos z, if_pos z, if_pos rfl, z.1.1, if_neg (by decide)]
    · rw [if_neg z, if_neg z]; omega
  · rw [htk, upd_eq, m4 1 (by omega) (by omega) (Or.inl (by omega)), hlo 1 (by omega) (by omega)]
end STEP
