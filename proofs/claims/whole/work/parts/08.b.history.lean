/-! The relation of the whole memory: now, the history, the snapshot, the text. -/
def CurE (G : Nat → Nat → Int32) (j : Nat) (N : Nat → Int32) : Prop := ∃ n k W P mo ow vx, CurR G j N n k W P mo ow vx
def HisR (G : Nat → Nat → Int32) (L : Nat) (pi : Nat → Nat) : Prop := G 8 1 = nI L ∧ G 0 2 = nI L ∧ L ≤ 4 ∧ (∀ t, t < 4 → G 9 t = nI (pi t) ∧ 3 ≤ pi t ∧ pi t < 7) ∧ (∀ s t, s < 4 → t < 4 → pi s = pi t → s = t) ∧ ∀ t, t < L → CurE G (pi t) (fun f => G 2 (t * 1201 + f))
def SnpR (G : Nat → Nat → Int32) : Prop := G 7 5 = G 0 3 ∧ ((G 0 3 = 0 ∧ G (sB 2) 6 = nI 0 ∧ G (sB 2) 7 = nI 0 ∧ G (sB 2) 9 = 0) ∨ CurE G 2 (fun f => G 2 (4 * 1201 + f)))
def TxtR (G : Nat → Nat → Int32) : Prop := ∃ T, T ≤ 60 ∧ G 10 1 = nI T ∧ G 0 5 = nI T ∧ G 11 = G 3
/-- all but what is now -/
def RST (G : Nat → Nat → Int32) : Prop := (∃ L pi, HisR G L pi) ∧ SnpR G ∧ TxtR G
def REL (G : Nat → Nat → Int32) : Prop := CurE G 0 (G 1) ∧ RST G
theorem curE_f {G G' : Nat → Nat → Int32} {j : Nat} {N N' : Nat → Int32} (h : CurE G j N) (hG : ∀ o, o < 161 → G' (sB j + o) = G (sB j + o)) (hN : ∀ f, f < 1201 → N' f = N f) : CurE G' j N' := by
  obtain ⟨n, k, W, P, mo, ow, vx, h⟩ := h
  exact ⟨n, k, W, P, mo, ow, vx, cur_N (cur_G h hG) hN⟩
theorem his_f {G G' : Nat → Nat → Int32} {L : Nat} {pi : Nat → Nat} (h : HisR G L pi) (hb : ∀ q, 336 ≤ q → G' q = G q) (h2 : ∀ f, f < 6005 → G' 2 f = G 2 f) (h9 : G' 9 = G 9) (h8 : G' 8 1 = G 8 1) (h02 : G' 0 2 = G 0 2) : HisR G' L pi := by
  obtain ⟨a1, a2, a3, a4, a5, a6⟩ := h
  refine ⟨by rw [h8]; exact a1, by rw [h02]; exact a2, a3, fun t ht => by rw [h9]; exact a4 t ht, a5, fun t ht => ?_⟩
  have := (a4 t (by omega)).2
  exact curE_f (a6 t ht) (fun o ho => hb _ (by unfold sB; omega)) (fun f hf => h2 _ (by omega))
theorem snp_f {G G' : Nat → Nat → Int32} (h : SnpR G) (hb : ∀ q, 336 ≤ q → q < 497 → G' q = G q) (h2 : ∀ f, 4804 ≤ f → f < 6005 → G' 2 f = G 2 f) (h7 : G' 7 5 = G 7 5) (h03 : G' 0 3 = G 0 3) : SnpR G' := by
  obtain ⟨b1, b2⟩ := h
  refine ⟨by rw [h7, h03]; exact b1, ?_⟩
  rw [h03]
  rcases b2 with ⟨z1, z2, z3, z4⟩ | z
  · have e := hb (sB 2) (by unfold sB; omega) (by unfold sB; omega)
    exact Or.inl ⟨z1, by rw [e]; exact z2, by rw [e]; exact z3, by rw [e]; exact z4⟩
  · exact Or.inr (curE_f z (fun o ho => hb _ (by unfold sB; omega) (by unfold sB; omega)) (fun f hf => h2 _ (by omega) (by omega)))
/-- what does not count -/
theorem rst_f {G G' : Nat → Nat → Int32} (h : RST G) (hb : ∀ q, 336 ≤ q → G' q = G q) (h2 : ∀ f, f < 6005 → G' 2 f = G 2 f) (h3 : G' 3 = G 3) (h11 : G' 11 = G 11) (h9 : G' 9 = G 9) (h8 : G' 8 1 = G 8 1) (h7 : G' 7 5 = G 7 5) (h10 : G' 10 1 = G 10 1) (h02 : G' 0 2 = G 0 2) (h03 : G' 0 3 = G 0 3) (h05 : G' 0 5 = G 0 5) : RST G' := by
  obtain ⟨⟨L, pi, h1⟩, hs, T, c1, c2, c3, c4⟩ := h
  exact ⟨⟨L, pi, his_f h1 hb h2 h9 h8 h02⟩, snp_f hs (fun q q1 _ => hb q q1) (fun f _ f2 => h2 f f2) h7 h03, T, c1, by rw [h10]; exact c2, by rw [h05]; exact c3, by rw [h11, h3]; exact c4⟩
theorem recM_2 {G : Nat → Nat → Int32} {L : Nat} (hL : L ≤ 4) {t f : Nat} (ht : t < rotL L) (hf : f < 1201) : recM G L 2 (t * 1201 + f) = if L = 4 then G 2 ((t + 1) * 1201 + f) else G 2 (t * 1201 + f) := by
  unfold recM
  rw [gs_other (by omega)]
  have h1 : t * 1201 + f < rotL L * 1201 := by
    have : (t + 1) * 1201 ≤ rotL L * 1201 := Nat.mul_le_mul_right _ ht
    omega
  unfold kpF
  rw [if_neg (by omega)]
  by_cases z : L = 4
  · subst z
    rw [if_pos rfl, if_pos rfl, gs_other (by omega)]
    unfold shF2
    have h3 : rotL 4 = 3 := rfl
    rw [h3] at h1
    rw [if_pos ⟨rfl, by omega⟩]
    rw [show t * 1201 + f + 1201 = (t + 1) * 1201 + f by omega]
  · rw [if_neg z, if_neg z]
theorem recM_22 {G : Nat → Nat → Int32} {L f : Nat} (hf : f < 1201) : recM G L 2 (rotL L * 1201 + f) = G 1 f := by
  unfold recM
  rw [gs_other (by omega)]
  unfold kpF
  rw [if_pos ⟨rfl, by omega, by omega⟩, show rotL L * 1201 + f - rotL L * 1201 = f by omega]
  by_cases z : L = 4
  · rw [if_pos z, gs_other (by omega)]; unfold shF2; rw [if_neg (by omega)]
  · rw [if_neg z]
theorem recM_24 {G : Nat → Nat → Int32} {L f : Nat} (hL : L ≤ 4) (hf : 4804 ≤ f) : recM G L 2 f = G 2 f := by
  have h3 : rotL L ≤ 3 := by have := rotL_lt hL; omega
  have h4 : rotL L * 1201 ≤ 3 * 1201 := Nat.mul_le_mul_right _ h3
  unfold recM
  rw [gs_other (by omega)]
  unfold kpF
  rw [if_neg (by omega)]
  by_cases z : L = 4
  · rw [if_pos z, gs_other (by omega)]; unfold shF2; rw [if_neg (by omega)]
  · rw [if_neg z]
theorem recM_02 {G : Nat → Nat → Int32} {L : Nat} : recM G L 0 2 = nI (rotL L + 1) := by unfold recM; rw [gs_up, upd_eq]
theorem rotP_inj {pi : Nat → Nat} {L : Nat} (h : ∀ s t, s < 4 → t < 4 → pi s = pi t → s = t) : ∀ s t, s < 4 → t < 4 → rotP pi L s = rotP pi L t → s = t := by
  intro s t hs ht e
  unfold rotP at e
  by_cases z : L = 4
  · rw [if_pos z, if_pos z] at e
    split at e <;> split at e
    · have := h _ _ (by omega) (by omega) e; omega
    · have := h _ _ (by omega) (by omega) e; omega
    · have := h _ _ (by omega) (by omega) e; omega
    · omega
  · rw [if_neg z, if_neg z] at e
    exact h s t hs ht e
/-- both record: the history stays the same -/
theorem rec_hi2 {G Gr G1 G2 : Nat → Nat → Int32} {L : Nat} {pi : Nat → Nat} {n k W : Nat} {P : Nat → Nat} {mo : Nat → Nat → Nat} {ow : Nat → Nat} {vx : Nat → Nat → Nat} (hS : SnpR G ∧ TxtR G) (hH : HisR G L pi) (hC : CurR G 0 (G 1) n k W P mo ow vx) (hr : rcR G Gr pi L n k) (h1 : ∀ q, q ≠ 0 → q ≠ 1 → q ≠ 2 → q ≠ 4 → q ≠ 5 → q < 14 ∨ 175 ≤ q → G1 q = Gr q) (h10 : ∀ f, f = 3 ∨ f = 5 → G1 0 f = Gr 0 f) (h11 : ∀ f, f < 1201 → G1 1 f = Gr 1 f) (h12 : ∀ f, f < 6005 → G1 2 f = Gr 2 f) (h2 : ∀ q, q ≠ 1 → q ≠ 6 → G2 q = recM G1 L q) : RST G2 := by
  obtain ⟨a1, a2, a3, a4, a5, a6⟩ := hH
  obtain ⟨hSn, T, c1, c2, c3, c4⟩ := hS
  obtain ⟨r1, r2, r3, r4⟩ := hr
  have hj3 : ∀ t, t < 4 → 3 ≤ rotP pi L t ∧ rotP pi L t < 7 := fun t ht => rotP_all (Z := fun q => 3 ≤ q ∧ q < 7) (fun t ht => (a4 t ht).2) ht
  have hrl := rotL_lt a3
  have hjs := hj3 _ hrl
  have hsm : ∀ q, q < 14 → q ≠ 0 → q ≠ 1 → q ≠ 2 → q ≠ 4 → q ≠ 5 → q ≠ 8 → q ≠ 9 → G1 q = G q := fun q hq h0 hq1 hq2 h4 h5 h8 h9 => (h1 q h0 hq1 hq2 h4 h5 (Or.inl hq)).trans (r3 q h8 h9 (Or.inl (by unfold sB; omega)))
  have h2o : ∀ q, q ≠ 0 → q ≠ 1 → q ≠ 2 → q ≠ 6 → G2 q = G1 q := fun q q0 q1 q2 q6 => (h2 q q1 q6).trans (recM_o q0 q2)
  have h2s : ∀ q, q < 14 → q ≠ 8 → q ≠ 9 → q ≠ 0 → q ≠ 1 → q ≠ 2 → q ≠ 6 → q ≠ 4 → q ≠ 5 → G2 q = G q := fun q hq h8 h9 q0 q1 q2 q6 q4 q5 => (h2o q q0 q1 q2 q6).trans (hsm q hq q0 q1 q2 q4 q5 h8 h9)
  have hs1 : ∀ f, f < 1201 → G1 1 f = G 1 f := fun f hf => by rw [h11 f hf, r3 1 (by omega) (by omega) (Or.inl (by unfold sB; omega))]
  have hs2 : ∀ f, f < 6005 → G1 2 f = G 2 f := fun f hf => by rw [h12 f hf, r3 2 (by omega) (by omega) (Or.inl (by unfold sB; omega))]
  have hblk : ∀ j o, 2 ≤ j → j < 7 → o < 161 → j ≠ rotP pi L (rotL L) → G2 (sB j + o) = G (sB j + o) := fun j o hj hj7 ho hne => by
    rw [h2o _ (by unfold sB; omega) (by unfold sB; omega) (by unfold sB; omega) (by unfold sB; omega), h1 _ (by unfold sB; omega) (by unfold sB; omega) (by unfold sB; omega) (by unfold sB; omega) (by unfold sB; omega) (Or.inr (by unfold sB; omega))]
    exact r3 _ (by unfold sB; omega) (by unfold sB; omega) (by unfold sB; omega)
  have h0 : ∀ f, f = 3 ∨ f = 5 → G2 0 f = G 0 f := fun f hf => by
    rw [h2 0 (by omega) (by omega), recM_0 (by omega), h10 f hf, r3 0 (by omega) (by omega) (Or.inl (by unfold sB; omega))]
  refine ⟨⟨rotL L + 1, rotP pi L, ?_, ?_, by omega, fun t ht => ⟨?_, hj3 t ht⟩, rotP_inj a5, fun t ht => ?_⟩, ?_, T, c1, ?_, ?_, ?_⟩
  · rw [h2o 8 (by omega) (by omega) (by omega) (by omega), h1 8 (by omega) (by omega) (by omega) (by omega) (by omega) (Or.inl (by omega))]; exact r1
  · rw [h2 0 (by omega) (by omega), recM_02]
  · rw [h2o 9 (by omega) (by omega) (by omega) (by omega), h1 9 (by omega) (by omega) (by omega) (by omega) (by omega) (Or.inl (by omega))]; exact r2 t ht
  · by_cases z : t = rotL L
    · subst z
      have hcb := cur_CB hC r4
      refine curE_f ⟨n, k, W, P, mo, ow, vx, hcb⟩ (fun o ho => ?_) (fun f hf => ?_)
      · rw [h2o _ (by unfold sB; omega) (by unfold sB; omega) (by unfold sB; omega) (by unfold sB; omega), h1 _ (by unfold sB; omega) (by unfold sB; omega) (by unfold sB; omega) (by unfold sB; omega) (by unfold sB; omega) (Or.inr (by unfold sB; omega))]
      · rw [h2 2 (by omega) (by omega), recM_22 hf, hs1 f hf]
    · have htl : t < rotL L := by omega
      have hne : rotP pi L t ≠ rotP pi L (rotL L) := fun e => z (rotP_inj a5 t _ (by omega) hrl e)
      have hjt := hj3 t (by omega)
      have hnum : ∀ f, f < 1201 → G2 2 (t * 1201 + f) = if L = 4 then G 2 ((t + 1) * 1201 + f) else G 2 (t * 1201 + f) := fun f hf => by
        rw [h2 2 (by omega) (by omega), recM_2 a3 htl hf, hs2 _ (by have := rotL_lt a3; omega), hs2 _ (by have := rotL_lt a3; omega)]
      by_cases q : L = 4
      · have hr3 : rotL L = 3 := by rw [q]; rfl
        have e : rotP pi L t = pi (t + 1) := by unfold rotP; rw [if_pos q, if_pos (by omega)]
        rw [e] at hne hjt ⊢
        exact curE_f (a6 (t + 1) (by omega)) (fun o ho => hblk _ o (by omega) (by omega) ho hne) (fun f hf => by rw [hnum f hf, if_pos q])
      · have hrL : rotL L = L := by unfold rotL; rw [if_neg q]
        have e : rotP pi L t = pi t := by unfold rotP; rw [if_neg q]
        rw [e] at hne hjt ⊢
        exact curE_f (a6 t (by omega)) (fun o ho => hblk _ o (by omega) (by omega) ho hne) (fun f hf => by rw [hnum f hf, if_neg q])
  · refine snp_f hSn (fun q q1 q2 => ?_) (fun f f1 f2 => ?_) ?_ (h0 3 (by omega))
    · have := hblk 2 (q - 336) (by omega) (by omega) (by omega) (by omega)
      rw [show sB 2 + (q - 336) = q by unfold sB; omega] at this
      exact this
    · rw [h2 2 (by omega) (by omega), recM_24 a3 f1, hs2 f f2]
    · rw [h2s 7 (by omega) (by omega) (by omega) (by omega) (by omega) (by omega) (by omega) (by omega) (by omega)]
  · rw [h2s 10 (by omega) (by omega) (by omega) (by omega) (by omega) (by omega) (by omega) (by omega) (by omega)]; exact c2
  · rw [h0 5 (by omega)]; exact c3
  · rw [h2s 11 (by omega) (by omega) (by omega) (by omega) (by omega) (by omega) (by omega) (by omega) (by omega), h2s 3 (by omega) (by omega) (by omega) (by omega) (by omega) (by omega) (by omega) (by omega) (by omega)]; exact c4
theorem rec_his {G Gr G1 G2 : Nat → Nat → Int32} {L : Nat} {pi : Nat → Nat} {n k W : Nat} {P : Nat → Nat} {mo : Nat → Nat → Nat} {ow : Nat → Nat} {vx : Nat → Nat → Nat} (hS : SnpR G ∧ TxtR G) (hH : HisR G L pi) (hC : CurR G 0 (G 1) n k W P mo ow vx) (hr : rcR G Gr pi L n k) (h1 : ∀ q, q < 14 ∨ 175 ≤ q → G1 q = Gr q) (h2 : ∀ q, q ≠ 1 → q ≠ 6 → G2 q = recM G1 L q) : RST G2 :=
  rec_hi2 hS hH hC hr (fun q _ _ _ _ _ h => h1 q h) (fun f _ => by rw [h1 0 (by omega)]) (fun f _ => by rw [h1 1 (by omega)]) (fun f _ => by rw [h1 2 (by omega)]) h2
/-- both record an act: the rest follows -/
theorem act_rel {G Gr G1 G2 : Nat → Nat → Int32} {L : Nat} {pi : Nat → Nat} {n k W : Nat} {P : Nat → Nat} {mo : Nat → Nat → Nat} {ow : Nat → Nat} {vx : Nat → Nat → Nat} (hS : SnpR G ∧ TxtR G) (hH : HisR G L pi) (hC : CurR G 0 (G 1) n k W P mo ow vx) (hr : rcR G Gr pi L n k) (h1 : ∀ q, q < 14 ∨ 175 ≤ q → G1 q = Gr q) (h2 : ∀ q, q ≠ 1 → q ≠ 6 → G2 q = recM G1 L q) (hE : CurE G1 0 (G2 1)) : REL G2 := by
  refine ⟨curE_f hE (fun o ho => ?_) (fun _ _ => rfl), rec_his hS hH hC hr h1 h2⟩
  rw [h2 _ (by unfold sB; omega) (by unfold sB; omega), recM_o (by unfold sB; omega) (by unfold sB; omega)]
theorem cur_r {G Gr : Nat → Nat → Int32} {L : Nat} {pi : Nat → Nat} {n k W n2 k2 : Nat} {P : Nat → Nat} {mo : Nat → Nat → Nat} {ow : Nat → Nat} {vx : Nat → Nat → Nat} {N : Nat → Int32} (hC : CurR G 0 N n k W P mo ow vx) (hr : rcR G Gr pi L n2 k2) (hL4 : L ≤ 4) (hne : ∀ t, t < 4 → pi t ≠ 0) : CurR Gr 0 N n k W P mo ow vx :=
  cur_G hC (fun o ho => rcR_0 hr hL4 hne _ (by unfold sB; omega) (by unfold sB; omega) (by unfold sB; omega))
