/-! A commit lands, on both sides. -/
theorem caA_c (U : Nat → Int32) {r k W : Nat} (hW : W ≤ 52) : ∀ c, c ≤ 12 → (caA U r k k W c).2 = W + cw (U (9 + 20 * r + 4)) c ∧ ((caA U r k k W c).1 8 = if cw (U (9 + 20 * r + 4)) c = 0 then chN U r k k 8 else nI (W + cw (U (9 + 20 * r + 4)) c)) ∧ (∀ i, i < c → hw (U (9 + 20 * r + 4)) i → rowR (caA U r k k W c).1 (W + cw (U (9 + 20 * r + 4)) i) i (k + 1) (U (9 + 20 * r + (8 + i)))) ∧ ∀ f, f ≠ 8 → f < 809 + 3 * W ∨ 1001 ≤ f → (caA U r k k W c).1 f = chN U r k k f := by
  intro c
  induction c with
  | zero => intro _; exact ⟨rfl, rfl, fun i h => absurd h (by omega), fun _ _ _ => rfl⟩
  | succ c ih =>
    intro hc
    obtain ⟨h1, h2, h3, h4⟩ := ih (by omega)
    have hle : ∀ i, cw (U (9 + 20 * r + 4)) i ≤ i := fun i => cn_le (fun _ _ => by split <;> omega)
    have hcc := hle c
    have es : cw (U (9 + 20 * r + 4)) (c + 1) = cw (U (9 + 20 * r + 4)) c + (if hw (U (9 + 20 * r + 4)) c then 1 else 0) := rfl
    obtain ⟨A, V, eA⟩ : ∃ A V, caA U r k k W c = (A, V) := ⟨_, _, rfl⟩
    rw [eA] at h1 h2 h3 h4
    dsimp only at h1 h2 h3 h4
    rw [caA, eA, caS]
    by_cases z : hw (U (9 + 20 * r + 4)) c
    · rw [if_pos z] at es
      rw [if_pos z, es]
      dsimp only
      refine ⟨by omega, ?_, fun i hi hh => ?_, fun f f8 hf => ?_⟩
      · rw [upd_eq, if_neg (by omega), h1, Nat.add_assoc]
      · rcases Nat.lt_or_ge i c with q | q
        · obtain ⟨b1, b2, b3⟩ := h3 i q hh
          have hm := cn_mono (f := fun i => if hw (U (9 + 20 * r + 4)) i then 1 else 0) (show i + 1 ≤ c by omega)
          have e1 : cw (U (9 + 20 * r + 4)) (i + 1) = cw (U (9 + 20 * r + 4)) i + (if hw (U (9 + 20 * r + 4)) i then 1 else 0) := rfl
          rw [if_pos hh] at e1
          have hm2 : cw (U (9 + 20 * r + 4)) (i + 1) ≤ cw (U (9 + 20 * r + 4)) c := hm
          refine ⟨?_, ?_, ?_⟩
          · rw [upd_ne (by omega), upd_ne (by omega), upd_ne (by omega), upd_ne (by omega)]; exact b1
          · rw [upd_ne (by omega), upd_ne (by omega), upd_ne (by omega), upd_ne (by omega)]; exact b2
          · rw [upd_ne (by omega), upd_ne (by omega), upd_ne (by omega), upd_ne (by omega)]; exact b3
        · have e : i = c := by omega
          subst e
          rw [h1]
          refine ⟨?_, ?_, ?_⟩
          · rw [upd_ne (by omega), upd_ne (by omega), upd_ne (by omega)]; exact upd_eq
          · rw [upd_ne (by omega), upd_ne (by omega), upd_eq]
          · rw [upd_ne (by omega), upd_eq]
      · rw [upd_ne f8, upd_ne (by omega), upd_ne (by omega), upd_ne (by omega)]
        exact h4 f f8 hf
    · rw [if_neg z] at es
      rw [if_neg z, es, Nat.add_zero]
      dsimp only
      refine ⟨h1, h2, fun i hi hh => ?_, h4⟩
      rcases Nat.lt_or_ge i c with q | q
      · exact h3 i q hh
      · have e : i = c := by omega
        subst e
        exact absurd hh z
def moL (w : Int32) (k : Nat) (mo : Nat → Nat → Nat) : Nat → Nat → Nat := fun c p => if hw w c then (if p = 0 then k + 1 else mo c (p - 1)) else mo c p
def vaL (w : Int32) (x : Nat → Int32) (va : Nat → Nat → Int32) : Nat → Nat → Int32 := fun c p => if hw w c then (if p = 0 then x c else va c (p - 1)) else va c p
def vxL (w : Int32) (W : Nat) (vx : Nat → Nat → Nat) : Nat → Nat → Nat := fun c p => if hw w c then (if p = 0 then W + cw w c else vx c (p - 1)) else vx c p
def PL (w : Int32) (P : Nat → Nat) : Nat → Nat := fun c => if hw w c then P c + 1 else P c
section LAND
variable {G : Nat → Nat → Int32} {N : Nat → Int32} {n k W r : Nat} {P : Nat → Nat} {mo : Nat → Nat → Nat} {ow : Nat → Nat} {vx : Nat → Nat → Nat}
theorem fq_up {m : Nat → Nat} {o : Nat} (c : Nat) {w : Int32} {mo : Nat → Nat → Nat} (hm : mo c = m) (hh : hw w c) (ho : o ≤ k) (Q : Nat) : fq (moL w k mo c) o (Q + 1) = fq m o Q + 1 := by
  unfold fq
  rw [rm_first]
  have e0 : moL w k mo c 0 = k + 1 := by unfold moL; rw [if_pos hh, if_pos rfl]
  have e1 : ∀ p, moL w k mo c (p + 1) = m p := fun p => by unfold moL; rw [if_pos hh, if_neg (by omega), ← hm]; rfl
  rw [e0, if_pos (by omega), Nat.add_comm]
  congr 1
  exact cn_congr (fun p _ => by rw [e1])
/-- the numbers behind a commit that writes -/
theorem land_N (h : CurR G 0 N n k W P mo ow vx) (hr : r < n) (hk : k < 40) (h0 : ¬ N (9 + 20 * r + 4) = 0) :
    (cdN N r k k W).2 = W + cw (N (9 + 20 * r + 4)) 12 ∧ (cdN N r k k W).1 8 = nI (cdN N r k k W).2 ∧ ABS (cdN N r k k W).1 n (k + 1) (PL (N (9 + 20 * r + 4)) P) (moL (N (9 + 20 * r + 4)) k mo) ow ∧ TbS (cdN N r k k W).1 (cdN N r k k W).2 (fun _ _ => True) (PL (N (9 + 20 * r + 4)) P) (moL (N (9 + 20 * r + 4)) k mo) (vaL (N (9 + 20 * r + 4)) (fun c => N (9 + 20 * r + (8 + c))) (fun c => G (cV 0 c))) (vxL (N (9 + 20 * r + 4)) W vx) ∧ (∀ f, f ≠ 0 → f ≠ 6 → f ≠ 8 → f < 809 → (cdN N r k k W).1 f = upd N (9 + 20 * r + 2) (nI 1) f) ∧ (cdN N r k k W).1 6 = nI (k + 1) ∧ (∀ f, f < 5 → (cdN N r k k W).1 (1001 + 5 * k + f) = if f = 0 then nI r else if f = 1 then N (9 + 20 * r + 0) else if f = 2 then nI (k + 1) else if f = 3 then N (9 + 20 * r + 4) else N (9 + 20 * r + 3)) ∧ ∀ f, 1001 ≤ f → f < 1001 + 5 * k → (cdN N r k k W).1 f = N f := by
  have hW := h.2.1.2.2
  have hn4 := (cu_ab h.1).2.2.2.1
  obtain ⟨c1, c2, c3, c4, c5, c6, c7, c8, c9, c10, c11, c12⟩ := cu_rd h.1 hr
  have ec : cdN N r k k W = caA (upd N (9 + 20 * r + 2) (nI 1)) r k k W 12 := by unfold cdN; rw [if_neg h0]
  obtain ⟨U, eU⟩ : ∃ z, z = upd N (9 + 20 * r + 2) (nI 1) := ⟨_, rfl⟩
  rw [ec, ← eU]
  have hU : ∀ f, f ≠ 9 + 20 * r + 2 → U f = N f := fun f hf => by rw [eU, upd_ne hf]
  obtain ⟨a1, a2, a3, a4⟩ := caA_c U (r := r) (k := k) hW 12 (Nat.le_refl 12)
  rw [hU (9 + 20 * r + 4) (by omega)] at a1 a2 a3
  rw [if_neg (cw_0 c10 h0)] at a2
  have hch : ∀ f, f ≠ 8 → f < 809 + 3 * W ∨ 1001 ≤ f → (caA U r k k W 12).1 f = chN U r k k f := a4
  have hlo : ∀ f, f ≠ 0 → f ≠ 6 → f ≠ 8 → f < 1001 → f < 809 + 3 * W → (caA U r k k W 12).1 f = U f := fun f h0 h6 h8 h1 hf => by
    rw [hch f h8 (Or.inl hf)]; exact chN_lo ⟨h0, h6, h1⟩
  have hcw : ∀ c, cw (N (9 + 20 * r + 4)) c ≤ c := fun c => cn_le (fun _ _ => by split <;> omega)
  refine ⟨a1, by rw [a2, a1], ?_, ⟨fun c p hc hp _ => ?_, fun v hv => ?_⟩, fun f f0 f6 f8 hf => hlo f f0 f6 f8 (by omega) (by omega), ?_, fun f hf => ?_, fun f f1 f2 => ?_⟩
  · obtain ⟨b1, b2, b3, b4, b5, b6⟩ := cu_ab h.1
    refine ⟨fun c hc => ?_, ?_, by omega, b4, fun t ht => ?_, fun t ht ho c hc => ?_⟩
    · obtain ⟨d1, d2, d3, d4⟩ := b1 c hc
      have h9 := (cu_P9 h c hc).2.2
      unfold PL
      by_cases z : hw (N (9 + 20 * r + 4)) c
      · rw [if_pos z]
        refine ⟨by omega, by omega, ?_, fun p q hpq hq => ?_⟩
        · unfold moL; rw [if_pos z, if_pos rfl]; exact Nat.le_refl _
        · unfold moL
          rw [if_pos z, if_pos z, if_neg (show ¬ q = 0 by omega)]
          by_cases zp : p = 0
          · rw [if_pos zp]
            have := ABS_m (cu_ab h.1) hc (show q - 1 < P c by omega)
            omega
          · rw [if_neg zp]
            exact d4 (p - 1) (q - 1) (by omega) (by omega)
      · rw [if_neg z]
        have e : moL (N (9 + 20 * r + 4)) k mo c = mo c := by funext p; unfold moL; rw [if_neg z]
        rw [e]
        exact ⟨d1, d2, by omega, d4⟩
    · rw [hch 0 (by omega) (by omega)]
      unfold chN
      rw [upd_ne (by omega), upd_ne (by omega), upd_ne (by omega), upd_ne (by omega), upd_ne (by omega), upd_ne (by omega), upd_eq]
    · rw [hlo _ (by omega) (by omega) (by omega) (by omega) (by omega), hU _ (by omega)]
      exact ⟨(b5 t ht).1, by have := (b5 t ht).2; omega⟩
    · rw [hlo _ (by omega) (by omega) (by omega) (by omega) (by omega)] at ho
      have htr : t ≠ r := fun z => by rw [z, eU, upd_eq] at ho; exact absurd ho (by decide)
      rw [hU _ (by omega)] at ho
      have := b6 t ht ho c hc
      have h1 := (b1 c hc).1
      unfold PL moL
      by_cases z : hw (N (9 + 20 * r + 4)) c
      · rw [if_pos z, if_pos z, Nat.add_sub_cancel, if_neg (by omega)]; exact this
      · rw [if_neg z, if_neg z]; exact this
  · unfold PL at hp
    have hold : ∀ q, q < P c → vx c q < W + cw (N (9 + 20 * r + 4)) 12 ∧ rowR (caA U r k k W 12).1 (vx c q) c (mo c q) (G (cV 0 c) q) := fun q hq => by
      obtain ⟨g1, g2, g3, g4⟩ := (cu_tb h.1).1 c q hc hq trivial
      exact ⟨by omega, by rw [hlo _ (by omega) (by omega) (by omega) (by omega) (by omega), hU _ (by omega)]; exact g2, by rw [hlo _ (by omega) (by omega) (by omega) (by omega) (by omega), hU _ (by omega)]; exact g3, by rw [hlo _ (by omega) (by omega) (by omega) (by omega) (by omega), hU _ (by omega)]; exact g4⟩
    rw [a1]
    unfold vxL moL vaL
    by_cases z : hw (N (9 + 20 * r + 4)) c
    · rw [if_pos z, if_pos z, if_pos z]
      rw [if_pos z] at hp
      by_cases zp : p = 0
      · rw [if_pos zp, if_pos zp, if_pos zp]
        have hm := cn_mono (f := fun i => if hw (N (9 + 20 * r + 4)) i then 1 else 0) (show c + 1 ≤ 12 by omega)
        have e1 : cw (N (9 + 20 * r + 4)) (c + 1) = cw (N (9 + 20 * r + 4)) c + (if hw (N (9 + 20 * r + 4)) c then 1 else 0) := rfl
        rw [if_pos z] at e1
        have hm2 : cw (N (9 + 20 * r + 4)) (c + 1) ≤ cw (N (9 + 20 * r + 4)) 12 := hm
        have h3 := a3 c hc z
        rw [hU (9 + 20 * r + (8 + c)) (by omega)] at h3
        exact ⟨by omega, h3⟩
      · rw [if_neg zp, if_neg zp, if_neg zp]
        exact hold (p - 1) (by omega)
    · rw [if_neg z, if_neg z, if_neg z]
      rw [if_neg z] at hp
      exact hold p hp
  · rw [a1] at hv
    rcases Nat.lt_or_ge v W with q | q
    · obtain ⟨c, p, g1, g2, -, g3⟩ := (cu_tb h.1).2 v q
      by_cases z : hw (N (9 + 20 * r + 4)) c
      · refine ⟨c, p + 1, g1, by unfold PL; rw [if_pos z]; omega, trivial, ?_⟩
        unfold vxL; rw [if_pos z, if_neg (by omega)]; exact g3
      · refine ⟨c, p, g1, by unfold PL; rw [if_neg z]; exact g2, trivial, ?_⟩
        unfold vxL; rw [if_neg z]; exact g3
    · obtain ⟨c, g1, g2, g3⟩ := cn_hit (f := fun i => if hw (N (9 + 20 * r + 4)) i then 1 else 0) (t := v - W) (fun i => by split <;> omega) (show v - W < cw (N (9 + 20 * r + 4)) 12 by omega)
      have z : hw (N (9 + 20 * r + 4)) c := Classical.byContradiction (fun w => by rw [if_neg w] at g2; omega)
      have g4 : cw (N (9 + 20 * r + 4)) c = v - W := g3
      refine ⟨c, 0, g1, by unfold PL; rw [if_pos z]; omega, trivial, ?_⟩
      unfold vxL; rw [if_pos z, if_pos rfl, g4]; omega
  · rw [hch 6 (by omega) (by omega)]
    unfold chN
    rw [upd_eq]
  · rw [hch _ (by omega) (by omega)]
    unfold chN
    rcases (show f = 0 ∨ f = 1 ∨ f = 2 ∨ f = 3 ∨ f = 4 by omega) with rfl | rfl | rfl | rfl | rfl
    · rw [if_pos rfl, upd_ne (by omega), upd_ne (by omega), upd_ne (by omega), upd_ne (by omega), upd_ne (by omega)]; exact upd_eq
    · rw [if_neg (by omega), if_pos rfl, upd_ne (by omega), upd_ne (by omega), upd_ne (by omega), upd_ne (by omega), upd_eq, hU _ (by omega)]
    · rw [if_neg (by omega), if_neg (by omega), if_pos rfl, upd_ne (by omega), upd_ne (by omega), upd_ne (by omega), upd_eq]
    · rw [if_neg (by omega), if_neg (by omega), if_neg (by omega), if_pos rfl, upd_ne (by omega), upd_ne (by omega), upd_eq, hU _ (by omega)]
    · rw [if_neg (by omega), if_neg (by omega), if_neg (by omega), if_neg (by omega), upd_ne (by omega), upd_eq, hU _ (by omega)]
  · rw [hch f (by omega) (by omega)]
    unfold chN
    rw [upd_ne (by omega), upd_ne (by omega), upd_ne (by omega), upd_ne (by omega), upd_ne (by omega), upd_ne (by omega), upd_ne (by omega), hU f (by omega)]
end LAND
