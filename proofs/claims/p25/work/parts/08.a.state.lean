/-! The whole relation of one state, and what copying and small changes do to it. -/
def CurR (G : Nat → Nat → Int32) (j : Nat) (N : Nat → Int32) (n k W : Nat) (P : Nat → Nat) (mo : Nat → Nat → Nat) (ow : Nat → Nat) (vx : Nat → Nat → Nat) : Prop :=
  Cur0 G j N n k W P mo ow vx ∧ (k + opn N n ≤ n ∧ opn N n ≤ 8 ∧ W ≤ 52) ∧ ∀ c p, c < 12 → p < P c → KP N n P mo ow c p
section CUR
variable {G G' : Nat → Nat → Int32} {j : Nat} {N N' : Nat → Int32} {n k W : Nat} {P : Nat → Nat} {mo : Nat → Nat → Nat} {ow : Nat → Nat} {vx : Nat → Nat → Nat}
/-- each old version is seen by one of at most eight -/
theorem kp_P {b : Nat} (hS : ∀ c p, c < 12 → p < P c → KP N n P mo ow c p) (hb : opn N n ≤ b) {c : Nat} (hc : c < 12) : P c ≤ b + 1 := by
  rcases Nat.eq_zero_or_pos (P c) with z0 | z0
  · omega
  have h1 : cn (fun _ => 1) (P c - 1) ≤ cn (fun p => cn (fun r => if N (9 + 20 * r + 2) = 0 ∧ fq (mo c) (ow r) (P c) = p + 1 then 1 else 0) n) (P c - 1) := by
    refine rm_mono (fun p hp => ?_)
    rcases hS c (p + 1) hc (by omega) with z | ⟨r, hr, z⟩
    · omega
    · have z : N (9 + 20 * r + 2) = 0 ∧ fq (mo c) (ow r) (P c) = p + 1 := z
      have := cn_pos (f := fun r => if N (9 + 20 * r + 2) = 0 ∧ fq (mo c) (ow r) (P c) = p + 1 then 1 else 0) hr (by rw [if_pos z]; omega)
      show 1 ≤ cn (fun r => if N (9 + 20 * r + 2) = 0 ∧ fq (mo c) (ow r) (P c) = p + 1 then 1 else 0) n
      omega
  rw [rm_const, rm_swap] at h1
  have h2 : cn (fun r => cn (fun p => if N (9 + 20 * r + 2) = 0 ∧ fq (mo c) (ow r) (P c) = p + 1 then 1 else 0) (P c - 1)) n ≤ opn N n := by
    refine rm_mono (fun r hr => ?_)
    by_cases ho : N (9 + 20 * r + 2) = 0
    · rw [if_pos ho]
      by_cases z : 1 ≤ fq (mo c) (ow r) (P c) ∧ fq (mo c) (ow r) (P c) - 1 < P c - 1
      · rw [rm_one z.2 (fun p _ hne => if_neg (fun w => hne (by omega)))]
        split <;> omega
      · rw [rm_zero (fun p hp => if_neg (fun w => z (by omega)))]
        omega
    · rw [if_neg ho, rm_zero (fun p _ => if_neg (fun w => ho w.1))]
      exact Nat.le_refl _
  omega
theorem cu_P9 (h : CurR G j N n k W P mo ow vx) : ∀ c, c < 12 → G (cB j c) 2 = nI (P c) ∧ 1 ≤ P c ∧ P c ≤ 9 := fun c hc => by
  have := cu_hp h.1 c hc
  exact ⟨this.1, this.2.1, kp_P h.2.2 h.2.1.2.1 hc⟩
theorem TbS_cg {va va' : Nat → Nat → Int32} {S : Nat → Nat → Prop} (hT : TbS N W S P mo va vx) (hW : W ≤ 64) (hN : ∀ f, 809 ≤ f → f < 1001 → N' f = N f) (hv : ∀ c p, c < 12 → p < P c → va' c p = va c p) : TbS N' W S P mo va' vx := by
  refine ⟨fun c p hc hp hs => ?_, hT.2⟩
  obtain ⟨a, b1, b2, b3⟩ := hT.1 c p hc hp hs
  exact ⟨a, by rw [hN _ (by omega) (by omega)]; exact b1, by rw [hN _ (by omega) (by omega)]; exact b2, by rw [hN _ (by omega) (by omega), hv c p hc hp]; exact b3⟩
theorem opn_cg (h : ∀ r, r < n → N' (9 + 20 * r + 2) = N (9 + 20 * r + 2)) : opn N' n = opn N n := cn_congr (fun r hr => by rw [h r hr])
theorem KP_cg (hs : ∀ r, r < n → N' (9 + 20 * r + 2) = N (9 + 20 * r + 2)) {c p : Nat} (h : KP N n P mo ow c p) : KP N' n P mo ow c p := by
  rcases h with z | ⟨r, hr, h1, h2⟩
  · exact Or.inl z
  · exact Or.inr ⟨r, hr, by rw [hs r hr]; exact h1, h2⟩
theorem ABS_cg (h : ABS N n k P mo ow) (h0 : N' 0 = N 0) (hs : ∀ r, r < n → N' (9 + 20 * r + 2) = N (9 + 20 * r + 2) ∧ N' (9 + 20 * r + 0) = N (9 + 20 * r + 0)) : ABS N' n k P mo ow := by
  obtain ⟨a1, a2, a3, a4, a5, a6⟩ := h
  exact ⟨a1, by rw [h0]; exact a2, a3, a4, fun r hr => by rw [(hs r hr).2]; exact a5 r hr, fun r hr ho => a6 r hr (by rw [← (hs r hr).1]; exact ho)⟩
/-- the numbers beyond the row do not count -/
theorem cur_N (h : CurR G j N n k W P mo ow vx) (hN : ∀ f, f < 1201 → N' f = N f) : CurR G j N' n k W P mo ow vx := by
  have hn4 := (cu_ab h.1).2.2.2.1
  have hk4 : k ≤ 40 := by have := h.2.1.1; omega
  have hW := h.2.1.2.2
  obtain ⟨s1, s2, s3, s4, s5, s6, s7, s8, s9, s10, s11, s12⟩ := cu_sc h.1
  have hst : ∀ r, r < n → ∀ f, f < 20 → N' (9 + 20 * r + f) = N (9 + 20 * r + f) := fun r hr f hf => hN _ (by omega)
  refine ⟨⟨⟨s1, by rw [hN _ (by omega)]; exact s2, by rw [hN _ (by omega)]; exact s3, s4, by rw [hN _ (by omega)]; exact s5, s6, by rw [hN _ (by omega)]; exact s7, by rw [hN _ (by omega)]; exact s8, by rw [hN _ (by omega)]; exact s9, by rw [hN _ (by omega)]; exact s10, by rw [hN _ (by omega)]; exact s11, ?_⟩, fun r hr => RRR_congr (hst r hr) rfl rfl (cu_rd h.1 hr), fun q hq => CMR_congr (fun f _ f2 => hN f f2) (by omega) (cu_cm h.1 hq), h.1.2.2.2.1, ABS_cg (cu_ab h.1) (hN _ (by omega)) (fun r hr => ⟨hst r hr 2 (by omega), hst r hr 0 (by omega)⟩), TbS_cg (cu_tb h.1) (by omega) (fun f _ f2 => hN f (by omega)) (fun _ _ _ _ => rfl)⟩, by rw [opn_cg (fun r hr => hst r hr 2 (by omega))]; exact h.2.1, fun c p hc hp => KP_cg (fun r hr => hst r hr 2 (by omega)) (h.2.2 c p hc hp)⟩
  rw [hN _ (by omega), s12]
  exact sm_congr (fun r hr => (hst r hr 7 (by omega)).symm)
/-- a copy of a state is the same -/
theorem cur_CB {j2 : Nat} (h : CurR G j2 N n k W P mo ow vx) (hb : CB G G' j j2 n k) : CurR G' j N n k W P mo ow vx := by
  obtain ⟨b1, b2, b3, b4⟩ := hb
  obtain ⟨s1, s2, s3, s4, s5, s6, s7, s8, s9, s10, s11, s12⟩ := cu_sc h.1
  refine ⟨⟨⟨by rw [b4 3 (by omega) (by omega)]; exact s1, by rw [b4 4 (by omega) (by omega)]; exact s2, by rw [b4 5 (by omega) (by omega)]; exact s3, by rw [b4 6 (by omega) (by omega)]; exact s4, s5, by rw [b4 7 (by omega) (by omega)]; exact s6, s7, by rw [b4 8 (by omega) (by omega)]; exact s8, by rw [b4 9 (by omega) (by omega)]; exact s9, s10, s11, s12⟩, fun r hr => ?_, fun q hq => ?_, fun c hc => ?_, cu_ab h.1, TbS_cg (cu_tb h.1) (by have := h.2.1.2.2; omega) (fun _ _ _ => rfl) (fun c p hc hp => ((b1 c hc).1 p (by have := cu_P10 h.1 hc; omega)).1)⟩, h.2.1, h.2.2⟩
  · obtain ⟨w1, w2⟩ := b2 r hr
    obtain ⟨c1, c2, c3, c4, c5, c6, c7, c8, c9, c10, c11, c12⟩ := cu_rd h.1 hr
    exact ⟨by rw [w2 1 (by omega) (by omega)]; exact c1, by rw [w2 2 (by omega) (by omega)]; exact c2, by rw [w2 3 (by omega) (by omega)]; exact c3, by rw [w2 4 (by omega) (by omega)]; exact c4, by rw [w2 5 (by omega) (by omega)]; exact c5, by rw [w2 6 (by omega) (by omega)]; exact c6, by rw [w2 7 (by omega) (by omega)]; exact c7, by rw [w2 8 (by omega) (by omega)]; exact c8, c9, c10, c11, fun c hc hh => by rw [w1 c hc]; exact c12 c hc hh⟩
  · obtain ⟨a, b, c, d⟩ := cu_cm h.1 hq
    have w := b3 q hq
    exact ⟨fun f hf => by rw [w f (by omega)]; exact a f hf, by rw [w 5 (by omega)]; exact b, c, d⟩
  · obtain ⟨a, b⟩ := cu_cl h.1 hc
    have h10 := cu_P10 h.1 hc
    exact ⟨by show G' (cB j c) 2 = _; rw [(b1 c hc).2]; exact a, fun p hp => by show G' (cM j c) p = _; rw [((b1 c hc).1 p (by omega)).2]; exact b p hp⟩
/-- other objects do not count -/
theorem cur_G (h : CurR G j N n k W P mo ow vx) (hG : ∀ o, o < 161 → G' (sB j + o) = G (sB j + o)) : CurR G' j N n k W P mo ow vx := by
  have hn4 := (cu_ab h.1).2.2.2.1
  have hk4 : k ≤ 40 := by have := h.2.1.1; omega
  have eo : ∀ (q o : Nat), o < 161 → q = sB j + o → G' q = G q := fun q o ho hq => by rw [hq]; exact hG o ho
  refine ⟨⟨by rw [eo (sB j) 0 (by omega) (by omega)]; exact cu_sc h.1, fun r hr => ?_, fun q hq => ?_, fun c hc => ?_, cu_ab h.1, TbS_cg (cu_tb h.1) (by have := h.2.1.2.2; omega) (fun _ _ _ => rfl) (fun c p hc hp => ?_)⟩, h.2⟩
  · rw [eo (rN j r) (41 + 2 * r) (by omega) (by unfold rN sB; omega), eo (rW j r) (42 + 2 * r) (by omega) (by unfold rW sB; omega)]
    exact cu_rd h.1 hr
  · rw [eo (mC j q) (121 + q) (by omega) (by unfold mC sB; omega)]
    exact cu_cm h.1 hq
  · show G' (cB j c) 2 = _ ∧ ∀ p, p < P c → G' (cM j c) p = _
    rw [eo (cB j c) (5 + 3 * c) (by omega) (by unfold cB sB; omega), eo (cM j c) (7 + 3 * c) (by omega) (by unfold cM sB; omega)]
    exact cu_cl h.1 hc
  · rw [eo (cV j c) (6 + 3 * c) (by omega) (by unfold cV sB; omega)]
/-- one reader's numbers change, not its state, its moment or what it has paid -/
theorem cur_rd {r : Nat} (h : CurR G j N n k W P mo ow vx) (hr : r < n) (hG : ∀ q, q ≠ rN j r → q ≠ rW j r → G' q = G q) (hN : ∀ f, f < 9 + 20 * r ∨ 9 + 20 * r + 20 ≤ f → N' f = N f) (e0 : N' (9 + 20 * r + 0) = N (9 + 20 * r + 0)) (e2 : N' (9 + 20 * r + 2) = N (9 + 20 * r + 2)) (e7 : N' (9 + 20 * r + 7) = N (9 + 20 * r + 7)) (hR : RRR (G' (rN j r)) (G' (rW j r)) N' r) : CurR G' j N' n k W P mo ow vx := by
  have hn4 := (cu_ab h.1).2.2.2.1
  have hk4 : k ≤ 40 := by have := h.2.1.1; omega
  have hW := h.2.1.2.2
  obtain ⟨s1, s2, s3, s4, s5, s6, s7, s8, s9, s10, s11, s12⟩ := cu_sc h.1
  have hx : ∀ t, t < n → t ≠ r → ∀ f, f < 20 → N' (9 + 20 * t + f) = N (9 + 20 * t + f) := fun t ht hne f hf => hN _ (by omega)
  have hx0 : ∀ t, t < n → N' (9 + 20 * t + 0) = N (9 + 20 * t + 0) := fun t ht => by by_cases z : t = r; rw [z]; exact e0; exact hx t ht z 0 (by omega)
  have hx2 : ∀ t, t < n → N' (9 + 20 * t + 2) = N (9 + 20 * t + 2) := fun t ht => by by_cases z : t = r; rw [z]; exact e2; exact hx t ht z 2 (by omega)
  have hx7 : ∀ t, t < n → N' (9 + 20 * t + 7) = N (9 + 20 * t + 7) := fun t ht => by by_cases z : t = r; rw [z]; exact e7; exact hx t ht z 7 (by omega)
  have hlo : ∀ f, f < 9 → N' f = N f := fun f hf => hN f (by omega)
  have hsB : G' (sB j) = G (sB j) := hG _ (by unfold sB rN; omega) (by unfold sB rW; omega)
  refine ⟨⟨⟨by rw [hsB]; exact s1, by rw [hsB, hlo 1 (by omega)]; exact s2, by rw [hsB, hlo 4 (by omega)]; exact s3, by rw [hsB]; exact s4, by rw [hlo 2 (by omega)]; exact s5, by rw [hsB]; exact s6, by rw [hlo 6 (by omega)]; exact s7, by rw [hsB, hlo 3 (by omega)]; exact s8, by rw [hsB, hlo 7 (by omega)]; exact s9, by rw [hlo 7 (by omega)]; exact s10, by rw [hlo 8 (by omega)]; exact s11, ?_⟩, fun t ht => ?_, fun q hq => ?_, fun c hc => ?_, ABS_cg (cu_ab h.1) (hlo 0 (by omega)) (fun t ht => ⟨hx2 t ht, hx0 t ht⟩), TbS_cg (cu_tb h.1) (by omega) (fun f f1 _ => hN f (by omega)) (fun c p hc hp => by rw [hG (cV j c) (by unfold cV rN; omega) (by unfold cV rW; omega)])⟩, by rw [opn_cg hx2]; exact h.2.1, fun c p hc hp => KP_cg hx2 (h.2.2 c p hc hp)⟩
  · rw [hlo 5 (by omega), s12]
    exact sm_congr (fun t ht => (hx7 t ht).symm)
  · by_cases z : t = r
    · rw [z]; exact hR
    · exact RRR_congr (hx t ht z) (hG _ (by unfold rN; omega) (by unfold rN rW; omega)) (hG _ (by unfold rN rW; omega) (by unfold rW; omega)) (cu_rd h.1 ht)
  · rw [hG (mC j q) (by unfold mC rN; omega) (by unfold mC rW; omega)]
    exact CMR_congr (fun f f1 _ => hN f (by omega)) (by omega) (cu_cm h.1 hq)
  · show G' (cB j c) 2 = _ ∧ ∀ p, p < P c → G' (cM j c) p = _
    rw [hG (cB j c) (by unfold cB rN; omega) (by unfold cB rW; omega), hG (cM j c) (by unfold cM rN; omega) (by unfold cM rW; omega)]
    exact cu_cl h.1 hc
/-- a number of the state's own changes: the rent, or whether skew is forbidden -/
theorem cur_s {a b : Nat} {x : Int32} (h : CurR G j N n k W P mo ow vx) (hab : (a = 5 ∧ b = 4) ∨ (a = 9 ∧ b = 7 ∧ (x = 0 ∨ x = nI 1)) ∨ (a = 4 ∧ b = 1)) : CurR (gs G (sB j) a x) j (upd N b x) n k W P mo ow vx := by
  have hn4 := (cu_ab h.1).2.2.2.1
  have hk4 : k ≤ 40 := by have := h.2.1.1; omega
  have hW := h.2.1.2.2
  obtain ⟨s1, s2, s3, s4, s5, s6, s7, s8, s9, s10, s11, s12⟩ := cu_sc h.1
  have hup : ∀ f, f ≠ b → upd N b x f = N f := fun f hf => upd_ne hf
  have hb : b < 8 := by omega
  have hst : ∀ r, r < n → ∀ f, f < 20 → upd N b x (9 + 20 * r + f) = N (9 + 20 * r + f) := fun r hr f hf => hup _ (by omega)
  have ho : ∀ q, q ≠ sB j → gs G (sB j) a x q = G q := fun q hq => gs_other hq
  refine ⟨⟨?_, fun r hr => ?_, fun q hq => ?_, fun c hc => ?_, ABS_cg (cu_ab h.1) (hup _ (by omega)) (fun r hr => ⟨hst r hr 2 (by omega), hst r hr 0 (by omega)⟩), TbS_cg (cu_tb h.1) (by omega) (fun f f1 _ => hup f (by omega)) (fun c p hc hp => by rw [ho _ (by unfold cV sB; omega)])⟩, by rw [opn_cg (fun r hr => hst r hr 2 (by omega))]; exact h.2.1, fun c p hc hp => KP_cg (fun r hr => hst r hr 2 (by omega)) (h.2.2 c p hc hp)⟩
  · have hsm : upd N b x 5 = sm (fun r => upd N b x (9 + 20 * r + 7)) n := by
      rw [hup 5 (by omega), s12]
      exact sm_congr (fun r hr => (hst r hr 7 (by omega)).symm)
    rcases hab with ⟨rfl, rfl⟩ | ⟨rfl, rfl, hx⟩ | ⟨rfl, rfl⟩
    · exact ⟨by rw [gs_row (by omega)]; exact s1, by rw [gs_row (by omega), hup _ (by omega)]; exact s2, by rw [gs_up, upd_eq, upd_eq], by rw [gs_row (by omega)]; exact s4, by rw [hup _ (by omega)]; exact s5, by rw [gs_row (by omega)]; exact s6, by rw [hup _ (by omega)]; exact s7, by rw [gs_row (by omega), hup _ (by omega)]; exact s8, by rw [gs_row (by omega), hup _ (by omega)]; exact s9, by rw [hup _ (by omega)]; exact s10, by rw [hup _ (by omega)]; exact s11, hsm⟩
    · exact ⟨by rw [gs_row (by omega)]; exact s1, by rw [gs_row (by omega), hup _ (by omega)]; exact s2, by rw [gs_row (by omega), hup _ (by omega)]; exact s3, by rw [gs_row (by omega)]; exact s4, by rw [hup _ (by omega)]; exact s5, by rw [gs_row (by omega)]; exact s6, by rw [hup _ (by omega)]; exact s7, by rw [gs_row (by omega), hup _ (by omega)]; exact s8, by rw [gs_up, upd_eq, upd_eq], by rw [upd_eq]; exact hx, by rw [hup _ (by omega)]; exact s11, hsm⟩
    · exact ⟨by rw [gs_row (by omega)]; exact s1, by rw [gs_up, upd_eq, upd_eq], by rw [gs_row (by omega), hup _ (by omega)]; exact s3, by rw [gs_row (by omega)]; exact s4, by rw [hup _ (by omega)]; exact s5, by rw [gs_row (by omega)]; exact s6, by rw [hup _ (by omega)]; exact s7, by rw [gs_row (by omega), hup _ (by omega)]; exact s8, by rw [gs_row (by omega), hup _ (by omega)]; exact s9, by rw [hup _ (by omega)]; exact s10, by rw [hup _ (by omega)]; exact s11, hsm⟩
  · exact RRR_congr (hst r hr) (ho _ (by unfold rN sB; omega)) (ho _ (by unfold rW sB; omega)) (cu_rd h.1 hr)
  · rw [ho (mC j q) (by unfold mC sB; omega)]
    exact CMR_congr (fun f f1 _ => hup f (by omega)) (by omega) (cu_cm h.1 hq)
  · show gs G (sB j) a x (cB j c) 2 = _ ∧ ∀ p, p < P c → gs G (sB j) a x (cM j c) p = _
    rw [ho (cB j c) (by unfold cB sB; omega), ho (cM j c) (by unfold cM sB; omega)]
    exact cu_cl h.1 hc
end CUR
