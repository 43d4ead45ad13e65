/-! The relation of a state of the class and the reference's row of numbers; what both tell. -/
def opn (N : Nat → Int32) (n : Nat) : Nat := cn (fun r => if N (9 + 20 * r + 2) = 0 then 1 else 0) n
def SCR (s : Nat → Int32) (N : Nat → Int32) (n k W : Nat) : Prop := s 3 = nI k ∧ s 4 = N 1 ∧ s 5 = N 4 ∧ s 6 = nI n ∧ N 2 = nI n ∧ s 7 = nI k ∧ N 6 = nI k ∧ s 8 = N 3 ∧ s 9 = N 7 ∧ (N 7 = 0 ∨ N 7 = nI 1) ∧ N 8 = nI W ∧ N 5 = sm (fun r => N (9 + 20 * r + 7)) n
/-- a reader's rows -/
def RRR (row wr : Nat → Int32) (N : Nat → Int32) (r : Nat) : Prop := row 1 = N (9 + 20 * r + 2) ∧ row 2 = N (9 + 20 * r + 0) ∧ row 3 = N (9 + 20 * r + 1) ∧ row 4 = N (9 + 20 * r + 3) ∧ row 5 = N (9 + 20 * r + 4) ∧ row 6 = N (9 + 20 * r + 5) ∧ row 7 = N (9 + 20 * r + 7) ∧ row 8 = N (9 + 20 * r + 6) ∧ (N (9 + 20 * r + 6) = 0 ∨ N (9 + 20 * r + 6) = nI 1) ∧ sml (N (9 + 20 * r + 4)) 12 ∧ (∃ t, t ≤ 20 ∧ N (9 + 20 * r + 5) = nI t) ∧ ∀ c, c < 12 → hw (N (9 + 20 * r + 4)) c → wr c = N (9 + 20 * r + (8 + c))
/-- a commit's row -/
def CMR (row : Nat → Int32) (N : Nat → Int32) (q : Nat) : Prop := (∀ f, f < 5 → row f = N (1001 + 5 * q + f)) ∧ row 5 = nI (cn (swM N q) q) ∧ N (1001 + 5 * q + 2) = nI (q + 1) ∧ ∃ m, m ≤ q ∧ N (1001 + 5 * q + 1) = nI m
def CLR (pc : Nat → Int32) (mm : Nat → Nat → Int32) (P : Nat → Nat) (mo : Nat → Nat → Nat) : Prop := ∀ c, c < 12 → pc c = nI (P c) ∧ ∀ p, p < P c → mm c p = nI (mo c p)
/-- before what is unseen is removed -/
def Cur0 (G : Nat → Nat → Int32) (j : Nat) (N : Nat → Int32) (n k W : Nat) (P : Nat → Nat) (mo : Nat → Nat → Nat) (ow : Nat → Nat) (vx : Nat → Nat → Nat) : Prop :=
  SCR (G (sB j)) N n k W ∧ (∀ r, r < n → RRR (G (rN j r)) (G (rW j r)) N r) ∧ (∀ q, q < k → CMR (G (mC j q)) N q) ∧ CLR (fun c => G (cB j c) 2) (fun c => G (cM j c)) P mo ∧ ABS N n k P mo ow ∧ TbS N W (fun _ _ => True) P mo (fun c => G (cV j c)) vx
section TOLD
variable {G : Nat → Nat → Int32} {j : Nat} {N : Nat → Int32} {n k W : Nat} {P : Nat → Nat} {mo : Nat → Nat → Nat} {ow : Nat → Nat} {vx : Nat → Nat → Nat}
theorem cu_sc (h : Cur0 G j N n k W P mo ow vx) : SCR (G (sB j)) N n k W := h.1
theorem cu_rd (h : Cur0 G j N n k W P mo ow vx) {r : Nat} (hr : r < n) : RRR (G (rN j r)) (G (rW j r)) N r := h.2.1 r hr
theorem cu_cm (h : Cur0 G j N n k W P mo ow vx) {q : Nat} (hq : q < k) : CMR (G (mC j q)) N q := h.2.2.1 q hq
theorem cu_cl (h : Cur0 G j N n k W P mo ow vx) {c : Nat} (hc : c < 12) : G (cB j c) 2 = nI (P c) ∧ ∀ p, p < P c → G (cM j c) p = nI (mo c p) := h.2.2.2.1 c hc
theorem cu_ab (h : Cur0 G j N n k W P mo ow vx) : ABS N n k P mo ow := h.2.2.2.2.1
theorem cu_tb (h : Cur0 G j N n k W P mo ow vx) : TbS N W (fun _ _ => True) P mo (fun c => G (cV j c)) vx := h.2.2.2.2.2
theorem cu_hp (h : Cur0 G j N n k W P mo ow vx) : ∀ c, c < 12 → G (cB j c) 2 = nI (P c) ∧ 1 ≤ P c ∧ P c ≤ 10 := fun c hc => ⟨(cu_cl h hc).1, ((cu_ab h).1 c hc).1, ((cu_ab h).1 c hc).2.1⟩
theorem cu_m (h : Cur0 G j N n k W P mo ow vx) : ∀ c p, c < 12 → p < P c → mo c p < 1000 := fun c p hc hp => by have := ABS_m (cu_ab h) hc hp; have := (cu_ab h).2.2.1; omega
theorem cu_d (h : Cur0 G j N n k W P mo ow vx) : ∀ c, c < 12 → dcr (mo c) (P c) := fun c hc => ((cu_ab h).1 c hc).2.2.2
theorem cu_in (h : Cur0 G j N n k W P mo ow vx) {c p c' p' : Nat} (hc : c < 12) (hp : p < P c) (hc' : c' < 12) (hp' : p' < P c') (e : vx c p = vx c' p') : c = c' ∧ p = p' := TbS_inj (cu_tb h) (cu_d h) (cu_m h) hc hp trivial hc' hp' trivial e
/-- what the class sees -/
theorem cu_pf (h : Cur0 G j N n k W P mo ow vx) {r c : Nat} (hr : r < n) (hc : c < 12) : pf (G (cM j c)) (G (rN j r) 2) 0 (P c) = if fq (mo c) (ow r) (P c) < P c then nI (fq (mo c) (ow r) (P c)) else -1 := by
  obtain ⟨a1, a2, a3, a4, a5, a6⟩ := cu_ab h
  rw [(cu_rd h hr).2.1, (a5 r hr).1]
  exact pf_fq (cu_d h c hc) (fun p hp => ⟨(cu_cl h hc).2 p hp, cu_m h c p hc hp⟩) (by have := (a5 r hr).2; omega)
theorem cu_po (h : Cur0 G j N n k W P mo ow vx) {r c : Nat} (hr : r < n) (ho : N (9 + 20 * r + 2) = 0) (hc : c < 12) : pf (G (cM j c)) (G (rN j r) 2) 0 (P c) = nI (fq (mo c) (ow r) (P c)) ∧ fq (mo c) (ow r) (P c) < P c := by
  have hf := ABS_f (cu_ab h) hr ho hc
  exact ⟨by rw [cu_pf h hr hc, if_pos hf], hf⟩
theorem cu_P10 (h : Cur0 G j N n k W P mo ow vx) {c : Nat} (hc : c < 12) : P c ≤ 10 := ((cu_ab h).1 c hc).2.1
theorem cu_pe (h : Cur0 G j N n k W P mo ow vx) {r c p : Nat} (hr : r < n) (hc : c < 12) (hp : p < P c) : (N (9 + 20 * r + 2) = 0 ∧ pf (G (cM j c)) (G (rN j r) 2) 0 (P c) = nI p) ↔ SE N P mo ow r c p := by
  have h10 := cu_P10 h hc
  unfold SE
  constructor
  · rintro ⟨h1, h2⟩
    obtain ⟨e1, e2⟩ := cu_po h hr h1 hc
    rw [e1] at h2
    exact ⟨h1, nI_in50 (by omega) (by omega) h2⟩
  · rintro ⟨h1, h2⟩
    obtain ⟨e1, e2⟩ := cu_po h hr h1 hc
    exact ⟨h1, by rw [e1, h2]⟩
theorem cu_seer (h : Cur0 G j N n k W P mo ow vx) {c p : Nat} (hc : c < 12) (hp : p < P c) : cn (sbM N W (vx c p) (nI 1)) n = cn (fun i => if G (rN j i) 1 = 0 ∧ pf (G (cM j c)) (G (rN j i) 2) 0 (P c) = nI p then 1 else 0) n := by
  refine cn_congr (fun r hr => ?_)
  have e := ev_sees (cu_ab h) (cu_tb h) (fun _ _ _ => trivial) hr rfl rfl hc hp trivial
  have e2 := cu_pe h hr hc hp
  unfold sbM
  rw [(cu_rd h hr).1]
  by_cases q : SE N P mo ow r c p
  · rw [if_pos ⟨e.mpr q, Or.inl (by decide)⟩, if_pos (e2.mpr q)]
  · rw [if_neg (fun z => q (e.mp z.1)), if_neg (fun z => q (e2.mp z))]
theorem cu_tm (h : Cur0 G j N n k W P mo ow vx) {r : Nat} (hr : r < n) : ¬ 0 < N (9 + 20 * r + 5) ↔ N (9 + 20 * r + 5) = 0 := by
  obtain ⟨t, ht, e⟩ := (cu_rd h hr).2.2.2.2.2.2.2.2.2.2.1
  rw [e]
  rcases Nat.eq_zero_or_pos t with z | z
  · subst z; exact ⟨fun _ => rfl, fun _ => by decide⟩
  · refine ⟨fun q => absurd (nI_lt (a := 0) z (by omega)) q, fun q => absurd q (nI_ne0 z (by omega))⟩
theorem cu_payer (h : Cur0 G j N n k W P mo ow vx) {c p : Nat} (hc : c < 12) (hp : p < P c) : cn (sbM N W (vx c p) (nI 0)) n = pyF G j n c (P c) (nI p) := by
  unfold pyF
  refine cn_congr (fun r hr => ?_)
  have e := ev_sees (cu_ab h) (cu_tb h) (fun _ _ _ => trivial) hr rfl rfl hc hp trivial
  have e2 := cu_pe h hr hc hp
  have e3 := cu_tm h hr
  unfold sbM
  rw [(cu_rd h hr).1, (cu_rd h hr).2.2.2.2.2.1]
  by_cases q : SE N P mo ow r c p
  · by_cases t : N (9 + 20 * r + 5) = 0
    · rw [if_pos ⟨e.mpr q, Or.inr (e3.mpr t)⟩, if_pos ⟨⟨q.1, t⟩, (e2.mpr q).2⟩]
    · rw [if_neg (fun z => z.2.elim (fun w => w rfl) (fun w => t (e3.mp w))), if_neg (fun z => t z.1.2)]
  · rw [if_neg (fun z => q (e.mp z.1)), if_neg (fun z => q (e2.mp ⟨z.1.1, z.2⟩))]
theorem cu_rent (h : Cur0 G j N n k W P mo ow vx) {c p : Nat} (hc : c < 12) (hp : p < P c) : shF G j n c (P c) (nI p) = if p = 0 then 0 else reM N W n (vx c p) := by
  have h10 := cu_P10 h hc
  unfold shF reM
  by_cases z : p = 0
  · rw [if_pos z, z, if_pos (by decide)]
  · rw [if_neg z, if_neg (nI_nle (by omega) (by omega)), cu_payer h hc hp, (cu_sc h).2.2.1]
    rfl
theorem cu_due (h : Cur0 G j N n k W P mo ow vx) {r : Nat} (hr : r < n) : dueF G j n P r = dueM N W n r := by
  have e3 := cu_tm h hr
  unfold dueF dueM
  rw [(cu_rd h hr).1, (cu_rd h hr).2.2.2.2.2.1]
  by_cases ho : N (9 + 20 * r + 2) = 0 ∧ N (9 + 20 * r + 5) = 0
  · rw [if_pos ho, if_pos ⟨ho.1, e3.mpr ho.2⟩]
    have hin : ∀ c, c < 12 → fq (mo c) (ow r) (P c) < P c := fun c hc => ABS_f (cu_ab h) hr ho.1 hc
    have h1 : sm (duM N W n r) W = sm (fun v => sm (fun c => if v = vx c (fq (mo c) (ow r) (P c)) then (if fq (mo c) (ow r) (P c) = 0 then 0 else reM N W n v) else 0) 12) W := by
      refine sm_congr (fun v hv => ?_)
      obtain ⟨c, p, hc, hp, -, e⟩ := (cu_tb h).2 v hv
      rw [e]
      have q1 := ev_old (cu_ab h) (cu_tb h) (fun _ _ _ => trivial) rfl hc hp trivial
      have q2 := ev_sees (cu_ab h) (cu_tb h) (fun _ _ _ => trivial) hr rfl rfl hc hp trivial
      rw [sm_one hc (fun c' hc' hne => if_neg (fun z => hne (cu_in h hc' (hin c' hc') hc hp z.symm).1))]
      unfold duM
      by_cases z : fq (mo c) (ow r) (P c) = p
      · rw [z, if_pos rfl]
        by_cases z0 : p = 0
        · rw [if_pos z0, if_neg (fun w => q1.mp w.1 z0)]; rfl
        · rw [if_neg z0, if_pos ⟨q1.mpr z0, q2.mpr ⟨ho.1, z⟩⟩]
      · rw [if_neg (fun w => z (q2.mp w.2).2), if_neg (fun w => z (cu_in h hc hp hc (hin c hc) w).2.symm)]
        rfl
    rw [h1, sm_swap]
    refine sm_congr (fun c hc => ?_)
    rw [sm_one ((cu_tb h).1 c _ hc (hin c hc) trivial).1 (fun v _ hne => if_neg hne), if_pos rfl, (cu_po h hr ho.1 hc).1, cu_rent h hc (hin c hc)]
  · rw [if_neg ho, if_neg (fun z => ho ⟨z.1, e3.mp z.2⟩)]
    rfl
theorem cu_new (h : Cur0 G j N n k W P mo ow vx) {c : Nat} (hc : c < 12) : vA N W (nI c) (N 0) = vx c 0 := ev_new (cu_ab h) (cu_tb h) (fun _ _ _ => trivial) rfl hc
theorem cu_va (h : Cur0 G j N n k W P mo ow vx) {r c : Nat} (hr : r < n) (ho : N (9 + 20 * r + 2) = 0) (hc : c < 12) : vA N W (nI c) (N (9 + 20 * r + 0)) = vx c (fq (mo c) (ow r) (P c)) := ev_see (cu_ab h) (cu_tb h) (fun _ _ _ => trivial) hr ho hc
theorem cu_row (h : Cur0 G j N n k W P mo ow vx) {c p : Nat} (hc : c < 12) (hp : p < P c) : N (809 + 3 * vx c p + 0) = nI c ∧ N (809 + 3 * vx c p + 1) = G (cM j c) p ∧ N (809 + 3 * vx c p + 2) = G (cV j c) p := by
  obtain ⟨-, a, b, d⟩ := (cu_tb h).1 c p hc hp trivial
  exact ⟨a, by rw [b, (cu_cl h hc).2 p hp], d⟩
theorem cu_1 (h : Cur0 G j N n k W P mo ow vx) {c : Nat} (hc : c < 12) : 0 < P c := ((cu_ab h).1 c hc).1
theorem cu_olds (h : Cur0 G j N n k W P mo ow vx) {r : Nat} (hr : r < n) (ho : N (9 + 20 * r + 2) = 0) : sm (snM N W r (nI 1)) 12 = nI (cn (fun c => if 0 < pf (G (cM j c)) (G (rN j r) 2) 0 (P c) then 1 else 0) 12) := by
  rw [← rm_nI]
  refine sm_congr (fun c hc => ?_)
  obtain ⟨e1, e2⟩ := cu_po h hr ho hc
  have h10 := cu_P10 h hc
  unfold snM
  rw [if_neg (by decide), cu_va h hr ho hc, e1]
  have q1 := ev_old (cu_ab h) (cu_tb h) (fun _ _ _ => trivial) rfl hc e2 trivial
  by_cases z : fq (mo c) (ow r) (P c) = 0
  · rw [if_neg (fun w => q1.mp w z), z, if_neg (by decide)]
  · rw [if_pos (q1.mpr z), if_pos (show (0 : Int32) < nI (fq (mo c) (ow r) (P c)) from nI_lt (a := 0) (by omega) (by omega))]
theorem cu_sum (h : Cur0 G j N n k W P mo ow vx) {r : Nat} (hr : r < n) (ho : N (9 + 20 * r + 2) = 0) : sm (snM N W r (nI 0)) 12 = sm (fun c => vsF (G (cV j c)) (G (cM j c)) (G (rN j r) 2) (P c)) 12 := by
  refine sm_congr (fun c hc => ?_)
  obtain ⟨e1, e2⟩ := cu_po h hr ho hc
  have h10 := cu_P10 h hc
  unfold snM
  rw [if_pos nI_0, cu_va h hr ho hc, (cu_row h hc e2).2.2, vsF_at e1 (by omega)]
theorem cu_conf (h : Cur0 G j N n k W P mo ow vx) {r : Nat} (hr : r < n) : cn (cfM N W r) 12 = cn (cfF G j r) 12 := by
  refine cn_congr (fun c hc => ?_)
  unfold cfM cfF
  rw [cu_new h hc, (cu_row h hc (cu_1 h hc)).2.1, (cu_rd h hr).2.1, (cu_rd h hr).2.2.2.2.1]
theorem cu_skew (h : Cur0 G j N n k W P mo ow vx) (hk4 : k ≤ 40) {r : Nat} (hr : r < n) : cn (ssM N r) k = cn (fun q => if skF (G (mC j q)) (G (rN j r)) then 1 else 0) k := by
  refine cn_congr (fun q hq => ?_)
  obtain ⟨c1, c2, c3, m, c4, c5⟩ := cu_cm h hq
  obtain ⟨r1, r2, r3, r4, r5, -⟩ := cu_rd h hr
  unfold ssM skF
  rw [← c1 2 (by omega), ← c1 3 (by omega), ← c1 4 (by omega), r2, r4, r5, (cu_ab h).2.1, nI_add, c5]
  have hlt : nI m < nI (k + 1) := nI_lt (by omega) (by omega)
  have hc := Int32.and_comm (G (mC j q) 3) (N (9 + 20 * r + 4))
  unfold skM
  rw [hc]
  by_cases z : N (9 + 20 * r + 0) < G (mC j q) 2 ∧ ¬ N (9 + 20 * r + 3) &&& G (mC j q) 3 = 0 ∧ ¬ G (mC j q) 4 &&& N (9 + 20 * r + 4) = 0 ∧ N (9 + 20 * r + 4) &&& G (mC j q) 3 = 0
  · rw [if_pos z, if_pos ⟨⟨z.1, hlt⟩, z.2.1, z.2.2.1, z.2.2.2⟩]
  · rw [if_neg z, if_neg (fun w => z ⟨w.1.1, w.2.1, w.2.2.1, w.2.2.2⟩)]
theorem cu_pairs (h : Cur0 G j N n k W P mo ow vx) : sm (fun q => G (mC j q) 5) k = nI (cn (fun q => cn (swM N q) q) k) := by
  rw [← rm_nI]
  exact sm_congr (fun q hq => (cu_cm h hq).2.1)
theorem cu_W (h : Cur0 G j N n k W P mo ow vx) : W = cn P 12 := by
  have := TbS_count (cu_d h) (cu_m h) (cu_tb h) (b := fun _ _ => 1) (fun c p _ _ => ⟨fun _ => rfl, fun z => absurd trivial z⟩)
  rw [this]
  exact cn_congr (fun c _ => by rw [rm_const, Nat.mul_one])
theorem cu_oldm (h : Cur0 G j N n k W P mo ow vx) : nI W - nI 12 = nI (cn (fun c => P c - 1) 12) := by
  have e : cn P 12 = cn (fun c => P c - 1) 12 + 12 := by
    have h2 : cn (fun c => (P c - 1) + 1) 12 = cn P 12 := cn_congr (fun c hc => by have := cu_1 h hc; omega)
    rw [← h2, rm_add, rm_const]
  rw [cu_W h, e, pk_sub (by omega), Nat.add_sub_cancel]
theorem cu_vers (h : Cur0 G j N n k W P mo ow vx) {c : Nat} (hc : c < 12) : cn (fun v => if N (809 + 3 * v + 0) = nI c then 1 else 0) W = P c := by
  have h1 : cn (fun v => if N (809 + 3 * v + 0) = nI c then 1 else 0) W = cn (fun v => cn (fun p => if vx c p = v then 1 else 0) (P c)) W := by
    refine cn_congr (fun v hv => ?_)
    obtain ⟨c', p', hc', hp', -, e⟩ := (cu_tb h).2 v hv
    rw [e, (cu_row h hc' hp').1]
    by_cases z : c' = c
    · subst z
      rw [if_pos rfl, rm_one hp' (fun p hp hne => if_neg (fun w => hne (cu_in h hc hp hc' hp' w).2)), if_pos rfl]
    · rw [if_neg (fun w => z (nI_in50 (by omega) (by omega) w)), rm_zero (fun p hp => if_neg (fun w => z (cu_in h hc hp hc' hp' w).1.symm))]
  rw [h1, rm_swap]
  have h2 : cn (fun p => cn (fun v => if vx c p = v then 1 else 0) W) (P c) = cn (fun _ => 1) (P c) := cn_congr (fun p hp => by
    rw [rm_one ((cu_tb h).1 c p hc hp trivial).1 (fun v _ hne => if_neg (fun z => hne z.symm)), if_pos rfl])
  rw [h2, rm_const, Nat.mul_one]
theorem cu_vw (h : Cur0 G j N n k W P mo ow vx) {c : Nat} (hc : c < 12) : ∀ p, p < P c → vwF N W c p = vx c p := by
  intro p
  induction p with
  | zero => intro _; exact cu_new h hc
  | succ p ih =>
    intro hp
    have hd := cu_d h c hc
    have h1 := hd p (p + 1) (by omega) hp
    have hm := cu_m h c p hc (by omega)
    rw [vwF, ih (by omega), (cu_row h hc (by omega)).2.1, (cu_cl h hc).2 p (by omega), pk_sub (by omega)]
    refine TbS_va (cu_tb h) (cu_d h) (cu_m h) (by omega) hc hp trivial (by omega) (fun q hq _ hle => ?_)
    rcases Nat.lt_or_ge (p + 1) q with z | z
    · exact Nat.le_of_lt (hd _ _ z hq)
    · rcases Nat.lt_or_ge q (p + 1) with w | w
      · rcases Nat.lt_or_ge q p with u | u
        · have := hd q p u (by omega); omega
        · rw [show q = p by omega] at hle; omega
      · rw [show q = p + 1 by omega]; exact Nat.le_refl _
end TOLD
