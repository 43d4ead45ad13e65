/-! One tick, on both sides. -/
/-- a reader's numbers behind a tick's payments -/
def pyRow (R : Nat → Int32) (d : Int32) : Nat → Int32 := fun f =>
  if R 2 = 0 ∧ ¬ 0 < R 5 then (if d ≤ R 1 then (if f = 1 then R 1 - d else if f = 7 then R 7 + d else R f) else (if f = 2 then nI 3 else R f)) else if R 2 = 0 then (if f = 5 then R 5 - nI 1 else R f) else R f
theorem pyRow_cg {R R' : Nat → Int32} {d : Int32} {f : Nat} (h1 : R 1 = R' 1) (h2 : R 2 = R' 2) (h5 : R 5 = R' 5) (h7 : R 7 = R' 7) (hf : R f = R' f) : pyRow R d f = pyRow R' d f := by
  unfold pyRow
  rw [h1, h2, h5, h7, hf]
theorem pyS_row (d : Nat → Int32) (s : (Nat → Int32) × Nat) (r f : Nat) (hf : f < 20) : (pyS d s r).1 (9 + 20 * r + f) = pyRow (fun f => s.1 (9 + 20 * r + f)) (d r) f := by
  unfold pyS pyRow
  dsimp only
  by_cases z1 : s.1 (9 + 20 * r + 2) = 0 ∧ ¬ 0 < s.1 (9 + 20 * r + 5)
  · rw [if_pos z1, if_pos z1]
    by_cases z2 : d r ≤ s.1 (9 + 20 * r + 1)
    · rw [if_pos z2, if_pos z2]
      dsimp only
      rw [upd_ne (by omega)]
      by_cases e1 : f = 1
      · subst e1; rw [if_pos rfl, upd_ne (by omega), upd_eq]
      · rw [if_neg e1]
        by_cases e7 : f = 7
        · subst e7; rw [if_pos rfl, upd_eq]
        · rw [if_neg e7, upd_ne (by omega), upd_ne (by omega)]
    · rw [if_neg z2, if_neg z2]
      dsimp only
      by_cases e2 : f = 2
      · subst e2; rw [if_pos rfl, upd_eq]
      · rw [if_neg e2, upd_ne (by omega)]
  · rw [if_neg z1, if_neg z1]
    by_cases z2 : s.1 (9 + 20 * r + 2) = 0
    · rw [if_pos z2, if_pos z2]
      dsimp only
      by_cases e5 : f = 5
      · subst e5; rw [if_pos rfl, upd_eq]
      · rw [if_neg e5, upd_ne (by omega)]
    · rw [if_neg z2, if_neg z2]
theorem pyA_row (N d : Nat → Int32) {r f : Nat} (hf : f < 20) : ∀ m, (m ≤ r → (pyA N d m).1 (9 + 20 * r + f) = N (9 + 20 * r + f)) ∧ (r < m → (pyA N d m).1 (9 + 20 * r + f) = pyRow (fun f => N (9 + 20 * r + f)) (d r) f) := by
  intro m
  have key : ∀ f, f < 20 → (m ≤ r → (pyA N d m).1 (9 + 20 * r + f) = N (9 + 20 * r + f)) ∧ (r < m → (pyA N d m).1 (9 + 20 * r + f) = pyRow (fun f => N (9 + 20 * r + f)) (d r) f) := by
    induction m with
    | zero => intro f _; exact ⟨fun _ => rfl, fun h => absurd h (by omega)⟩
    | succ m ih =>
      intro f hf
      refine ⟨fun h => ?_, fun h => ?_⟩
      · rw [pyA, pyS_lo d _ m _ (by omega) (by omega)]
        exact (ih f hf).1 (by omega)
      · rcases Nat.lt_or_ge r m with q | q
        · rw [pyA, pyS_lo d _ m _ (by omega) (by omega)]
          exact (ih f hf).2 q
        · have e : m = r := by omega
          subst e
          rw [pyA, pyS_row d _ m f hf]
          exact pyRow_cg ((ih 1 (by omega)).1 q) ((ih 2 (by omega)).1 q) ((ih 5 (by omega)).1 q) ((ih 7 (by omega)).1 q) ((ih f hf).1 q)
  exact key f hf
def evP (N d : Nat → Int32) (r : Nat) : Prop := (N (9 + 20 * r + 2) = 0 ∧ ¬ 0 < N (9 + 20 * r + 5)) ∧ ¬ d r ≤ N (9 + 20 * r + 1)
theorem pyA_2 (N d : Nat → Int32) : ∀ m, (pyA N d m).2 = cn (fun r => if (N (9 + 20 * r + 2) = 0 ∧ ¬ 0 < N (9 + 20 * r + 5)) ∧ ¬ d r ≤ N (9 + 20 * r + 1) then 1 else 0) m := by
  intro m
  induction m with
  | zero => rfl
  | succ m ih =>
    have h1 := fun f (hf : f < 20) => (pyA_row N d (r := m) hf m).1 (Nat.le_refl m)
    rw [pyA, cn, ← ih]
    unfold pyS
    rw [h1 1 (by omega), h1 2 (by omega), h1 5 (by omega)]
    by_cases z1 : N (9 + 20 * m + 2) = 0 ∧ ¬ 0 < N (9 + 20 * m + 5)
    · rw [if_pos z1]
      by_cases z2 : d m ≤ N (9 + 20 * m + 1)
      · rw [if_pos z2, if_neg (fun w => w.2 z2)]; rfl
      · rw [if_neg z2, if_pos ⟨z1, z2⟩]
    · have z3 : ¬ ((N (9 + 20 * m + 2) = 0 ∧ ¬ 0 < N (9 + 20 * m + 5)) ∧ ¬ d m ≤ N (9 + 20 * m + 1)) := fun w => z1 w.1
      rw [if_neg z1, if_neg z3]
      by_cases z2 : N (9 + 20 * m + 2) = 0
      · rw [if_pos z2]; rfl
      · rw [if_neg z2]; rfl
theorem pyA_5 (N d : Nat → Int32) : ∀ m, (pyA N d m).1 5 = N 5 + sm (fun r => pyRow (fun f => N (9 + 20 * r + f)) (d r) 7 - N (9 + 20 * r + 7)) m := by
  intro m
  induction m with
  | zero => rw [sm, Int32.add_zero]; rfl
  | succ m ih =>
    have h1 := fun f (hf : f < 20) => (pyA_row N d (r := m) hf m).1 (Nat.le_refl m)
    rw [pyA, sm, ← Int32.add_assoc, ← ih]
    unfold pyS pyRow
    dsimp only
    rw [h1 1 (by omega), h1 2 (by omega), h1 5 (by omega), h1 7 (by omega)]
    by_cases z1 : N (9 + 20 * m + 2) = 0 ∧ ¬ 0 < N (9 + 20 * m + 5)
    · rw [if_pos z1, if_pos z1]
      by_cases z2 : d m ≤ N (9 + 20 * m + 1)
      · rw [if_pos z2, if_pos z2, if_neg (by omega), if_pos rfl]
        dsimp only
        rw [upd_eq, Int32.add_comm (N (9 + 20 * m + 7)), Int32.add_sub_cancel]
      · rw [if_neg z2, if_neg z2, if_neg (by omega), Int32.sub_self, Int32.add_zero]
        dsimp only
        rw [upd_ne (by omega)]
    · rw [if_neg z1, if_neg z1]
      by_cases z2 : N (9 + 20 * m + 2) = 0
      · rw [if_pos z2, if_pos z2, if_neg (by omega), Int32.sub_self, Int32.add_zero]
        dsimp only
        rw [upd_ne (by omega)]
      · rw [if_neg z2, if_neg z2, Int32.sub_self, Int32.add_zero]
section TICK
variable {G G' : Nat → Nat → Int32} {j : Nat} {N : Nat → Int32} {n k W : Nat} {P : Nat → Nat} {mo : Nat → Nat → Nat} {ow : Nat → Nat} {vx : Nat → Nat → Nat}
theorem cur_P {P' : Nat → Nat} (h : CurR G j N n k W P mo ow vx) (hP : ∀ c, c < 12 → P' c = P c) : CurR G j N n k W P' mo ow vx := by
  obtain ⟨⟨h1, h2, h3, h4, h5, h6⟩, h7, h8⟩ := h
  refine ⟨⟨h1, h2, h3, fun c hc => by rw [hP c hc]; exact h4 c hc, ?_, ?_⟩, h7, fun c p hc hp => ?_⟩
  · obtain ⟨a1, a2, a3, a4, a5, a6⟩ := h5
    exact ⟨fun c hc => by rw [hP c hc]; exact a1 c hc, a2, a3, a4, a5, fun r hr ho c hc => by rw [hP c hc]; exact a6 r hr ho c hc⟩
  · obtain ⟨t1, t2⟩ := h6
    refine ⟨fun c p hc hp hs => t1 c p hc (by rw [← hP c hc]; exact hp) hs, fun v hv => ?_⟩
    obtain ⟨c, p, q1, q2, q3, q4⟩ := t2 v hv
    exact ⟨c, p, q1, by rw [hP c q1]; exact q2, q3, q4⟩
  · rcases h8 c p hc (by rw [← hP c hc]; exact hp) with z | ⟨r, r1, r2, r3⟩
    · exact Or.inl z
    · exact Or.inr ⟨r, r1, r2, by rw [hP c hc]; exact r3⟩
theorem vaS_cg {N' : Nat → Int32} {x y : Int32} (h : ∀ f, 809 ≤ f → f < 1001 → N' f = N f) : ∀ V, V ≤ 64 → vaS N' x y V = vaS N x y V := by
  intro V
  induction V with
  | zero => intro _; rfl
  | succ V ih =>
    intro hV
    rw [vaS, vaS, ih (by omega), h (809 + 3 * V + 0) (by omega) (by omega), h (809 + 3 * V + 1) (by omega) (by omega)]
theorem dueM_cg {N' : Nat → Int32} {r : Nat} (hW : W ≤ 64) (hr : r < n) (h0 : N' 0 = N 0) (h4 : N' 4 = N 4) (ht : ∀ f, 809 ≤ f → f < 1001 → N' f = N f) (hs : ∀ t, t < n → N' (9 + 20 * t + 2) = N (9 + 20 * t + 2) ∧ N' (9 + 20 * t + 0) = N (9 + 20 * t + 0) ∧ (0 < N' (9 + 20 * t + 5) ↔ 0 < N (9 + 20 * t + 5))) : dueM N' W n r = dueM N W n r := by
  have hv : ∀ x y, vA N' W x y = vA N W x y := fun x y => by unfold vA; rw [vaS_cg ht W hW]
  have hsb : ∀ v, v < W → cn (sbM N' W v (nI 0)) n = cn (sbM N W v (nI 0)) n := fun v hv2 => by
    refine cn_congr (fun t ht2 => ?_)
    obtain ⟨e1, e2, e3⟩ := hs t ht2
    unfold sbM seM
    rw [hv, e1, e2, ht (809 + 3 * v + 0) (by omega) (by omega)]
    refine ite_cg ?_ rfl rfl
    rw [e3]
  have hre : ∀ v, v < W → reM N' W n v = reM N W n v := fun v hv2 => by unfold reM; rw [hsb v hv2, h4]
  obtain ⟨e1, e2, e3⟩ := hs r hr
  unfold dueM
  refine ite_cg (by rw [e1, e3]) ?_ rfl
  refine sm_congr (fun v hv2 => ?_)
  unfold duM
  refine ite_cg ?_ (hre v hv2) rfl
  unfold olM seM
  rw [hv, hv, h0, e1, e2, ht (809 + 3 * v + 0) (by omega) (by omega)]
theorem rmN_none (h : Cur0 G j N n k W P mo ow vx) (hK : ∀ c p, c < 12 → p < P c → KP N n P mo ow c p) : rmN N n W = N ∧ (rmD N n W W) = (N, W, 0) := by
  have e := rm_none (cu_ab h) (cu_tb h) hK W (Nat.le_refl W)
  refine ⟨?_, e⟩
  unfold rmN
  rw [e]
  dsimp only
  rw [nI_0, Int32.add_zero]
  funext f
  unfold upd
  by_cases z : f = 3
  · rw [if_pos z, z]
  · rw [if_neg z]
end TICK
