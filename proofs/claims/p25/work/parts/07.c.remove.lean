/-! The reference's removes: what is kept. -/
theorem shK_lo {N : Nat → Int32} {V v kk f : Nat} (h8 : f ≠ 8) (h : f < 809 + 3 * v ∨ 809 + kk ≤ f) : shK N V v kk f = N f := by
  unfold shK; rw [if_neg h8, if_neg (by omega)]
theorem shK_hi {N : Nat → Int32} {V v kk f : Nat} (h8 : f ≠ 8) (h : 809 + 3 * v ≤ f ∧ f < 809 + kk) : shK N V v kk f = N (f + 3) := by
  unfold shK; rw [if_neg h8, if_pos h]
/-- the number of a row, without the row v -/
def dn1 (v u : Nat) : Nat := if v < u then u - 1 else u
theorem shK_row {N : Nat → Int32} {V v u c m : Nat} {x : Int32} (hv : v < V) (hu : u < V) (hne : u ≠ v) (h : rowR N u c m x) : dn1 v u < V - 1 ∧ rowR (shK N V v (3 * (V - 1))) (dn1 v u) c m x := by
  unfold dn1
  by_cases q : v < u
  · rw [if_pos q]
    refine ⟨by omega, ?_⟩
    have e : 3 * u = 3 * (u - 1) + 3 := by omega
    obtain ⟨a, b, d⟩ := h
    refine ⟨?_, ?_, ?_⟩
    · rw [shK_hi (by omega) (by omega), show 809 + 3 * (u - 1) + 0 + 3 = 809 + 3 * u + 0 by omega]; exact a
    · rw [shK_hi (by omega) (by omega), show 809 + 3 * (u - 1) + 1 + 3 = 809 + 3 * u + 1 by omega]; exact b
    · rw [shK_hi (by omega) (by omega), show 809 + 3 * (u - 1) + 2 + 3 = 809 + 3 * u + 2 by omega]; exact d
  · rw [if_neg q]
    refine ⟨by omega, ?_⟩
    obtain ⟨a, b, d⟩ := h
    exact ⟨by rw [shK_lo (by omega) (by omega)]; exact a, by rw [shK_lo (by omega) (by omega)]; exact b, by rw [shK_lo (by omega) (by omega)]; exact d⟩
section RMV
variable {N : Nat → Int32} {W n k : Nat} {P : Nat → Nat} {mo : Nat → Nat → Nat} {va : Nat → Nat → Int32} {vx : Nat → Nat → Nat} {ow : Nat → Nat}
/-- how far the removal is, d rows from the last -/
def RJ (N N1 : Nat → Int32) (W V1 cnt d n : Nat) (P : Nat → Nat) (mo : Nat → Nat → Nat) (va : Nat → Nat → Int32) (ow : Nat → Nat) (vx : Nat → Nat → Nat) (S : Nat → Nat → Prop) (vx1 : Nat → Nat → Nat) : Prop :=
  (∀ c p, KP N n P mo ow c p → S c p) ∧ TbS N1 V1 S P mo va vx1 ∧ (∀ c p, c < 12 → p < P c → vx c p < W - d → S c p ∧ vx1 c p = vx c p) ∧ (∀ c p, c < 12 → p < P c → W - d ≤ vx c p → S c p → KP N n P mo ow c p ∧ W - d ≤ vx1 c p) ∧ V1 + cnt = W ∧ W - d ≤ V1 ∧ ∀ f, f ≠ 8 → f < 809 ∨ 1001 ≤ f → N1 f = N f
theorem rm_J (hA : ABS N n k P mo ow) (hT : TbS N W (fun _ _ => True) P mo va vx) (hW : W ≤ 64) : ∀ d, d ≤ W → ∃ S vx1, RJ N (rmD N n W d).1 W (rmD N n W d).2.1 (rmD N n W d).2.2 d n P mo va ow vx S vx1 := by
  have hm : ∀ c p, c < 12 → p < P c → mo c p < 1000 := fun c p hc hp => by have := ABS_m hA hc hp; have := hA.2.2.1; omega
  have hdc : ∀ c, c < 12 → dcr (mo c) (P c) := fun c hc => (hA.1 c hc).2.2.2
  intro d
  induction d with
  | zero =>
    intro _
    exact ⟨fun _ _ => True, vx, fun _ _ _ => trivial, hT, fun _ _ _ _ _ => ⟨trivial, rfl⟩, fun c p hc hp h _ => by have := (hT.1 c p hc hp trivial).1; omega, by show W + 0 = W; omega, by show W - 0 ≤ W; omega, fun _ _ _ => rfl⟩
  | succ d ih =>
    intro hd
    obtain ⟨S, vx1, j1, j2, j3, j4, j5, j6, j7⟩ := ih (by omega)
    obtain ⟨N1, V1, cnt, es⟩ : ∃ N1 V1 cnt, rmD N n W d = (N1, V1, cnt) := ⟨_, _, _, rfl⟩
    rw [es] at j2 j5 j6 j7
    dsimp only at j2 j5 j6 j7
    rw [rmD, es]
    obtain ⟨c, p, hc, hp, -, hv⟩ := hT.2 (W - 1 - d) (by omega)
    obtain ⟨hs, hx⟩ := j3 c p hc hp (by omega)
    have hkeep := ev_keep hA j2 j1 (fun f h1 h2 => j7 f h2 (Or.inl h1)) hc hp hs
    rw [hx, ← hv] at hkeep
    by_cases hk : KP N n P mo ow c p
    · rw [rmS_z (fun z => (hkeep.mp z) hk)]
      dsimp only
      refine ⟨S, vx1, j1, j2, fun c' p' a b h => j3 c' p' a b (by omega), fun c' p' a b h hs' => ?_, j5, by omega, j7⟩
      rcases Nat.lt_or_ge (vx c' p') (W - d) with z | z
      · have e : vx c' p' = vx c p := by omega
        obtain ⟨e1, e2⟩ := TbS_inj hT hdc hm a b trivial hc hp trivial e
        subst e1; subst e2
        exact ⟨hk, by omega⟩
      · obtain ⟨q1, q2⟩ := j4 c' p' a b z hs'
        exact ⟨q1, by omega⟩
    · rw [rmS_p (hkeep.mpr hk)]
      dsimp only
      have hvV : W - 1 - d < V1 := by omega
      have hne : ∀ c' p', c' < 12 → p' < P c' → S c' p' → ¬ (c' = c ∧ p' = p) → vx1 c' p' ≠ W - 1 - d := by
        intro c' p' a b s' h z
        exact h (TbS_inj j2 hdc hm a b s' hc hp hs (by rw [z, hx, hv]))
      refine ⟨fun c' p' => S c' p' ∧ ¬ (c' = c ∧ p' = p), fun c' p' => dn1 (W - 1 - d) (vx1 c' p'), ?_, ⟨?_, ?_⟩, ?_, ?_, by omega, by omega, ?_⟩
      · intro c' p' h
        refine ⟨j1 c' p' h, fun z => hk ?_⟩
        rw [← z.1, ← z.2]; exact h
      · intro c' p' a b hs'
        obtain ⟨g1, g2⟩ := j2.1 c' p' a b hs'.1
        exact shK_row hvV g1 (hne c' p' a b hs'.1 hs'.2) g2
      · intro u hu
        have hu2 : (if u < W - 1 - d then u else u + 1) < V1 := by split <;> omega
        obtain ⟨c', p', a, b, s', e⟩ := j2.2 _ hu2
        refine ⟨c', p', a, b, ⟨s', fun z => ?_⟩, ?_⟩
        · rw [z.1, z.2, hx, ← hv] at e
          split at e <;> omega
        · show u = dn1 (W - 1 - d) (vx1 c' p')
          unfold dn1
          rw [← e]
          split <;> split <;> omega
      · intro c' p' a b h
        obtain ⟨q1, q2⟩ := j3 c' p' a b (by omega)
        refine ⟨⟨q1, fun z => ?_⟩, ?_⟩
        · rw [z.1, z.2] at h; omega
        · show dn1 (W - 1 - d) (vx1 c' p') = vx c' p'
          unfold dn1; rw [q2, if_neg (by omega)]
      · intro c' p' a b h hs'
        rcases Nat.lt_or_ge (vx c' p') (W - d) with z | z
        · have e : vx c' p' = vx c p := by omega
          exact absurd (TbS_inj hT hdc hm a b trivial hc hp trivial e) hs'.2
        · obtain ⟨q1, q2⟩ := j4 c' p' a b z hs'.1
          refine ⟨q1, ?_⟩
          show W - (d + 1) ≤ dn1 (W - 1 - d) (vx1 c' p')
          unfold dn1; split <;> omega
      · intro f f8 hf
        rw [shK_lo f8 (by omega)]
        exact j7 f f8 hf
/-- removes: the table holds what is kept; the rest of the numbers stays -/
theorem rm_all (hA : ABS N n k P mo ow) (hT : TbS N W (fun _ _ => True) P mo va vx) (hW : W ≤ 64) : ∃ vx1, TbS (rmN N n W) (rmD N n W W).2.1 (KP N n P mo ow) P mo va vx1 ∧ (rmD N n W W).2.1 + (rmD N n W W).2.2 = W ∧ (∀ f, f ≠ 8 → f ≠ 3 → f < 809 ∨ 1001 ≤ f → rmN N n W f = N f) ∧ rmN N n W 3 = N 3 + nI (rmD N n W W).2.2 := by
  obtain ⟨S, vx1, j1, j2, j3, j4, j5, j6, j7⟩ := rm_J hA hT hW W (Nat.le_refl W)
  have hup : ∀ v i, i < 3 → rmN N n W (809 + 3 * v + i) = (rmD N n W W).1 (809 + 3 * v + i) := fun v i hi => by unfold rmN; rw [upd_ne (by omega)]
  refine ⟨vx1, ⟨fun c p hc hp hs => ?_, fun v hv => ?_⟩, j5, fun f f8 f3 hf => ?_, ?_⟩
  · obtain ⟨g1, g2, g3, g4⟩ := j2.1 c p hc hp (j1 c p hs)
    exact ⟨g1, by rw [hup _ 0 (by omega)]; exact g2, by rw [hup _ 1 (by omega)]; exact g3, by rw [hup _ 2 (by omega)]; exact g4⟩
  · obtain ⟨c, p, a, b, s', e⟩ := j2.2 v hv
    exact ⟨c, p, a, b, (j4 c p a b (by omega) s').1, e⟩
  · unfold rmN
    rw [upd_ne f3]
    exact j7 f f8 hf
  · unfold rmN
    rw [upd_eq, j7 3 (by omega) (Or.inl (by omega))]
/-- where all is kept nothing is done -/
theorem rm_none (hA : ABS N n k P mo ow) (hT : TbS N W (fun _ _ => True) P mo va vx) (hK : ∀ c p, c < 12 → p < P c → KP N n P mo ow c p) : ∀ d, d ≤ W → rmD N n W d = (N, W, 0) := by
  intro d
  induction d with
  | zero => intro _; rfl
  | succ d ih =>
    intro hd
    rw [rmD, ih (by omega)]
    obtain ⟨c, p, hc, hp, -, hv⟩ := hT.2 (W - 1 - d) (by omega)
    refine rmS_z (fun z => ?_)
    rw [hv] at z
    exact (ev_keep hA hT (fun _ _ _ => trivial) (fun _ _ _ => rfl) hc hp trivial).mp z (hK c p hc hp)
/-- how many rows the table of the places S has -/
theorem TbS_count {N1 : Nat → Int32} {V1 : Nat} {S : Nat → Nat → Prop} {vx1 : Nat → Nat → Nat} {b : Nat → Nat → Nat} (hd : ∀ c, c < 12 → dcr (mo c) (P c)) (hm : ∀ c p, c < 12 → p < P c → mo c p < 1000) (hT : TbS N1 V1 S P mo va vx1) (hb : ∀ c p, c < 12 → p < P c → (S c p → b c p = 1) ∧ (¬ S c p → b c p = 0)) : V1 = cn (fun c => cn (fun p => b c p) (P c)) 12 := by
  have h1 : cn (fun v => cn (fun c => cn (fun p => if b c p = 1 ∧ vx1 c p = v then 1 else 0) (P c)) 12) V1 = cn (fun _ => 1) V1 := by
    refine cn_congr (fun v hv => ?_)
    obtain ⟨c, p, hc, hp, hs, e⟩ := hT.2 v hv
    have hbs : ∀ c' p', c' < 12 → p' < P c' → b c' p' = 1 → S c' p' := fun c' p' x y z => Classical.byContradiction (fun w => by have := (hb c' p' x y).2 w; omega)
    rw [rm_one hc (fun c' hc' hne => rm_zero (fun p' hp' => if_neg (fun z => hne (TbS_inj hT hd hm hc' hp' (hbs _ _ hc' hp' z.1) hc hp hs (by rw [z.2, e])).1))),
      rm_one hp (fun p' hp' hne => if_neg (fun z => hne (TbS_inj hT hd hm hc hp' (hbs _ _ hc hp' z.1) hc hp hs (by rw [z.2, e])).2)), if_pos ⟨(hb c p hc hp).1 hs, e.symm⟩]
  rw [rm_const, Nat.mul_one] at h1
  rw [← h1, rm_swap]
  refine cn_congr (fun c hc => ?_)
  rw [rm_swap]
  refine cn_congr (fun p hp => ?_)
  by_cases q : S c p
  · have hbp := (hb c p hc hp).1 q
    rw [rm_one (hT.1 c p hc hp q).1 (fun v _ hne => if_neg (fun z => hne z.2.symm)), if_pos ⟨hbp, rfl⟩, hbp]
  · have hbp := (hb c p hc hp).2 q
    rw [hbp]
    exact rm_zero (fun v _ => if_neg (fun z => by omega))
end RMV
