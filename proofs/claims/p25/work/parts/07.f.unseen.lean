/-! What removing unseen versions does to the relation. -/
section SNB
variable {G : Nat → Nat → Int32} {j : Nat} {N : Nat → Int32} {n k W : Nat} {P : Nat → Nat} {mo : Nat → Nat → Nat} {ow : Nat → Nat} {vx : Nat → Nat → Nat}
theorem bi_one (h : Cur0 G j N n k W P mo ow vx) {q : Int32} {i c p : Nat} (hi : i < n) (hc : c < 12) (hp : p < 32) : hw (psB G j c (P c) q i) p ↔ ¬ nI i = q ∧ SE N P mo ow i c p := by
  have h10 := cu_P10 h hc
  unfold psB
  rw [(cu_rd h hi).1]
  by_cases ho : N (9 + 20 * i + 2) = 0
  · obtain ⟨e1, e2⟩ := cu_po h hi ho hc
    rw [e1]
    by_cases hq : nI i = q
    · rw [if_neg (fun z => z.1 hq)]
      exact ⟨fun z => absurd z (hw_0 (by omega)), fun z => absurd hq z.1⟩
    · rw [if_pos ⟨hq, ho, nI_m1 (by omega)⟩]
      refine (hb_bt (fq (mo c) (ow i) (P c)) p (by omega) (by omega)).trans ?_
      exact ⟨fun z => ⟨hq, ho, z⟩, fun z => z.2.2⟩
  · rw [if_neg (fun z => ho z.2.1)]
    exact ⟨fun z => absurd z (hw_0 (by omega)), fun z => absurd z.2.1 ho⟩
theorem bi_sml (h : Cur0 G j N n k W P mo ow vx) {q : Int32} {i c : Nat} (hi : i < n) (hc : c < 12) : sml (psB G j c (P c) q i) 10 := by
  have h10 := cu_P10 h hc
  unfold psB
  rw [(cu_rd h hi).1]
  by_cases z : ¬ nI i = q ∧ N (9 + 20 * i + 2) = 0 ∧ ¬ pf (G (cM j c)) (G (rN j i) 2) 0 (P c) = -1
  · obtain ⟨e1, e2⟩ := cu_po h hi z.2.1 hc
    rw [if_pos z, e1]
    exact sml_bt (q := fq (mo c) (ow i) (P c)) (by omega) (by omega)
  · rw [if_neg z]; exact sml_0 10
/-- the bits of the places that are seen, one reader left aside -/
theorem bi_so (h : Cur0 G j N n k W P mo ow vx) {q : Int32} {c p : Nat} (hc : c < 12) (hp : p < 32) : hw (so (psB G j c (P c) q) n) p ↔ ∃ i, i < n ∧ ¬ nI i = q ∧ SE N P mo ow i c p := by
  have h10 := cu_P10 h hc
  rw [hb_so (by omega)]
  exact ⟨fun ⟨i, a, b⟩ => ⟨i, a, (bi_one h a hc hp).mp b⟩, fun ⟨i, a, b⟩ => ⟨i, a, (bi_one h a hc hp).mpr b⟩⟩
theorem bi_sn (h : Cur0 G j N n k W P mo ow vx) {c p : Nat} (hc : c < 12) (hp : p < P c) : hw (snF G j n P c) p ↔ ∃ i, i < n ∧ SE N P mo ow i c p := by
  have hn := (cu_ab h).2.2.2.1
  have h10 := cu_P10 h hc
  rw [snF, bi_so h hc (by omega)]
  exact ⟨fun ⟨i, a, _, b⟩ => ⟨i, a, b⟩, fun ⟨i, a, b⟩ => ⟨i, a, nI_m1 (by omega), b⟩⟩
end SNB
theorem cn_hit {f : Nat → Nat} {n t : Nat} (hf : ∀ i, f i ≤ 1) (h : t < cn f n) : ∃ i, i < n ∧ f i = 1 ∧ cn f i = t := by
  induction n with
  | zero => exact absurd h (Nat.not_lt_zero t)
  | succ n ih =>
    rw [cn] at h
    rcases Nat.lt_or_ge t (cn f n) with q | q
    · obtain ⟨i, a, b, c⟩ := ih q
      exact ⟨i, by omega, b, c⟩
    · have := hf n
      exact ⟨n, by omega, by omega, by omega⟩
/-- a kept place's new number -/
def np (w : Int32) (p : Nat) : Nat := if p = 0 then 0 else 1 + cn (rf w) p
def kp2 (w : Int32) (p : Nat) : Prop := p = 0 ∨ hw w p
theorem np_lt {w : Int32} {p q : Nat} (hp : kp2 w p) (h : p < q) : np w p < np w q := by
  unfold np
  rw [if_neg (show ¬ q = 0 by omega)]
  by_cases z : p = 0
  · rw [if_pos z]; omega
  · rw [if_neg z]
    have := rf_lt (i := q) (by omega) h (hp.elim (fun w => absurd w z) id)
    omega
theorem np_P {w : Int32} {p P : Nat} (hp : kp2 w p) (h : p < P) : np w p < 1 + cn (rf w) P := by
  have := np_lt hp h
  unfold np at this ⊢
  rw [if_neg (show ¬ P = 0 by omega)] at this
  exact this
theorem np_on {w : Int32} {P t : Nat} (hP : 1 ≤ P) (h : t < 1 + cn (rf w) P) : ∃ p, p < P ∧ kp2 w p ∧ np w p = t := by
  rcases Nat.eq_zero_or_pos t with z | z
  · exact ⟨0, by omega, Or.inl rfl, by rw [z]; rfl⟩
  · obtain ⟨i, a, b, c⟩ := cn_hit (f := rf w) (t := t - 1) (fun i => by unfold rf; split <;> omega) (show t - 1 < cn (rf w) P by omega)
    unfold rf at b
    have hh : 1 ≤ i ∧ hw w i := Classical.byContradiction (fun q => by rw [if_neg q] at b; omega)
    exact ⟨i, a, Or.inr hh.2, by unfold np; rw [if_neg (by omega), c]; omega⟩
theorem np_mono {w : Int32} {p q : Nat} (hp : kp2 w p) (hq : kp2 w q) : np w p < np w q ↔ p < q := by
  constructor
  · intro h
    rcases Nat.lt_trichotomy p q with z | z | z
    · exact z
    · rw [z] at h; omega
    · have := np_lt hq z; omega
  · exact np_lt hp
theorem np_inj {w : Int32} {p q : Nat} (hp : kp2 w p) (hq : kp2 w q) (h : np w p = np w q) : p = q := by
  have := np_mono hp hq
  have := np_mono hq hp
  omega
theorem np_le {w : Int32} (p : Nat) : np w p ≤ p := by
  unfold np
  split
  · omega
  · have := rf_le w p; omega
section RVA
variable {G G' : Nat → Nat → Int32} {j : Nat} {N : Nat → Int32} {n k W : Nat} {P : Nat → Nat} {mo : Nat → Nat → Nat} {ow : Nat → Nat} {vx : Nat → Nat → Nat}
theorem swM_con2 {N M : Nat → Int32} {q t : Nat} (h : ∀ f, 1001 ≤ f → f < 1001 + 5 * (q + 1) → M f = N f) (ht : t ≤ q) : cn (swM M q) t = cn (swM N q) t := by
  refine cn_congr (fun c hc => ?_)
  unfold swM
  rw [h _ (by omega) (by omega), h _ (by omega) (by omega), h _ (by omega) (by omega), h _ (by omega) (by omega), h _ (by omega) (by omega), h _ (by omega) (by omega), h _ (by omega) (by omega), h _ (by omega) (by omega)]
theorem CMR_con2 {row row' : Nat → Int32} {N M : Nat → Int32} {q : Nat} (h : ∀ f, 1001 ≤ f → f < 1001 + 5 * (q + 1) → M f = N f) (hr : row' = row) (hc : CMR row N q) : CMR row' M q := by
  obtain ⟨a, b, c, m, d, e⟩ := hc
  subst hr
  exact ⟨fun f hf => by rw [h _ (by omega) (by omega)]; exact a f hf, by rw [swM_con2 h (Nat.le_refl q)]; exact b, by rw [h _ (by omega) (by omega)]; exact c, m, d, by rw [h _ (by omega) (by omega)]; exact e⟩
theorem CMR_congr {row : Nat → Int32} {N M : Nat → Int32} {q : Nat} (h : ∀ f, 1001 ≤ f → f < 1201 → M f = N f) (hq : q < 40) (hc : CMR row N q) : CMR row M q := CMR_con2 (fun f f1 f2 => h f f1 (by omega)) rfl hc
theorem RRR_congr {row wr row' wr' : Nat → Int32} {N M : Nat → Int32} {r : Nat} (h : ∀ f, f < 20 → M (9 + 20 * r + f) = N (9 + 20 * r + f)) (hr : row' = row) (hw : wr' = wr) (hc : RRR row wr N r) : RRR row' wr' M r := by
  unfold RRR at hc ⊢
  rw [hr, hw, h 0 (by omega), h 1 (by omega), h 2 (by omega), h 3 (by omega), h 4 (by omega), h 5 (by omega), h 6 (by omega), h 7 (by omega)]
  obtain ⟨c1, c2, c3, c4, c5, c6, c7, c8, c9, c10, c11, c12⟩ := hc
  exact ⟨c1, c2, c3, c4, c5, c6, c7, c8, c9, c10, c11, fun c hc hh => by rw [h (8 + c) (by omega)]; exact c12 c hc hh⟩
set_option maxHeartbeats 1000000 in
theorem rv_all (h : Cur0 G j N n k W P mo ow vx) (hW : W ≤ 64) (hk4 : k ≤ 40) {v : Int32} (hr : ruR G G' j n P v) : ∃ P' mo' vx', Cur0 G' j (rmN N n W) n k (rmD N n W W).2.1 P' mo' ow vx' ∧ (∀ c p, c < 12 → p < P' c → KP (rmN N n W) n P' mo' ow c p) ∧ v = nI (rmD N n W W).2.2 ∧ (∀ f, f ≠ 8 → f ≠ 3 → f < 809 ∨ 1001 ≤ f → rmN N n W f = N f) ∧ (rmD N n W W).2.1 ≤ W := by
  obtain ⟨v1, v2, v3, v4, v5⟩ := hr
  obtain ⟨vx1, t1, t2, t3, t4⟩ := rm_all (cu_ab h) (cu_tb h) hW
  have hA := cu_ab h
  have hn4 := hA.2.2.2.1
  have hsc := cu_sc h
  have hW1 : 1 ≤ W := by
    have := ((cu_tb h).1 0 0 (by omega) (cu_1 h (by omega)) trivial).1
    omega
  have h8 := rmN_8 hsc.2.2.2.2.2.2.2.2.2.2.1 hsc.2.2.2.2.1 hW1
  -- the bits and what is kept
  have hbit : ∀ c p, c < 12 → p < P c → (hw (snF G j n P c) p ↔ ∃ i, i < n ∧ SE N P mo ow i c p) := fun c p hc hp => bi_sn h hc hp
  have hkp : ∀ c p, c < 12 → p < P c → (kp2 (snF G j n P c) p ↔ KP N n P mo ow c p) := fun c p hc hp => by
    unfold kp2 KP
    rw [hbit c p hc hp]
  obtain ⟨P', eP⟩ : ∃ P' : Nat → Nat, ∀ c, P' c = 1 + cn (rf (snF G j n P c)) (P c) := ⟨_, fun _ => rfl⟩
  obtain ⟨mo', em⟩ : ∃ mo' : Nat → Nat → Nat, ∀ c p, mo' c p = (G' (cM j c) p).toNatClampNeg := ⟨_, fun _ _ => rfl⟩
  have hnew : ∀ c p, c < 12 → p < P c → kp2 (snF G j n P c) p → G' (cM j c) (np (snF G j n P c) p) = nI (mo c p) ∧ G' (cV j c) (np (snF G j n P c) p) = G (cV j c) p := by
    intro c p hc hp hk
    obtain ⟨q1, q2, q3, q4⟩ := v2 c hc
    unfold np
    by_cases z : p = 0
    · rw [if_pos z, q3, q2, z]
      exact ⟨(cu_cl h hc).2 0 (cu_1 h hc), rfl⟩
    · rw [if_neg z]
      obtain ⟨a, b⟩ := q4 p (by omega) hp (hk.elim (fun w => absurd w z) id)
      exact ⟨by rw [b]; exact (cu_cl h hc).2 p hp, a⟩
  have hmo : ∀ c p, c < 12 → p < P c → kp2 (snF G j n P c) p → mo' c (np (snF G j n P c) p) = mo c p := by
    intro c p hc hp hk
    have := cu_m h c p hc hp
    rw [em, (hnew c p hc hp hk).1, nI_clamp (by omega)]
  have hon : ∀ c t, c < 12 → t < P' c → ∃ p, p < P c ∧ kp2 (snF G j n P c) p ∧ np (snF G j n P c) p = t := fun c t hc ht => np_on (cu_1 h hc) (by rw [← eP]; exact ht)
  have hlt : ∀ c p, c < 12 → p < P c → kp2 (snF G j n P c) p → np (snF G j n P c) p < P' c := fun c p hc hp hk => by rw [eP]; exact np_P hk hp
  have hdm : ∀ c, c < 12 → dcr (mo' c) (P' c) := by
    intro c hc a b hab hb
    obtain ⟨p, p1, p2, p3⟩ := hon c a hc (by omega)
    obtain ⟨q, q1, q2, q3⟩ := hon c b hc hb
    rw [← p3, ← q3, hmo c p hc p1 p2, hmo c q hc q1 q2]
    exact cu_d h c hc p q ((np_mono p2 q2).mp (by omega)) q1
  have hPle : ∀ c, c < 12 → P' c ≤ P c := fun c hc => by
    have := rf_le (snF G j n P c) (P c)
    have := cu_1 h hc
    rw [eP]; omega
  have hfq : ∀ r c, r < n → c < 12 → N (9 + 20 * r + 2) = 0 → kp2 (snF G j n P c) (fq (mo c) (ow r) (P c)) ∧ fq (mo' c) (ow r) (P' c) = np (snF G j n P c) (fq (mo c) (ow r) (P c)) := by
    intro r c hr hc ho
    have hin := ABS_f hA hr ho hc
    have hk : kp2 (snF G j n P c) (fq (mo c) (ow r) (P c)) := (hkp c _ hc hin).mpr (Or.inr ⟨r, hr, ho, rfl⟩)
    refine ⟨hk, fq_is (hdm c hc) (hlt c _ hc hin hk) ?_ ?_⟩
    · rw [hmo c _ hc hin hk]; exact fq_at (cu_d h c hc) hin
    · intro t ht
      obtain ⟨q, q1, q2, q3⟩ := hon c t hc (by have := hlt c _ hc hin hk; omega)
      rw [← q3, hmo c q hc q1 q2]
      rw [← q3] at ht
      exact (fq_lt (cu_d h c hc) q1).mp ((np_mono q2 hk).mp ht)
  have hst : ∀ r, r < n → ∀ f, f < 20 → rmN N n W (9 + 20 * r + f) = N (9 + 20 * r + f) := fun r hr f hf => t3 _ (by omega) (by omega) (by omega)
  have hAB : ABS (rmN N n W) n k P' mo' ow := by
    refine ⟨fun c hc => ⟨by rw [eP]; omega, Nat.le_trans (hPle c hc) (cu_P10 h hc), ?_, hdm c hc⟩, by rw [t3 0 (by omega) (by omega) (by omega)]; exact hA.2.1, hA.2.2.1, hn4, fun r hr => by rw [hst r hr 0 (by omega)]; exact hA.2.2.2.2.1 r hr, ?_⟩
    · have := hmo c 0 hc (cu_1 h hc) (Or.inl rfl)
      have e : np (snF G j n P c) 0 = 0 := rfl
      rw [e] at this
      rw [this]
      exact (hA.1 c hc).2.2.1
    · intro r hr ho c hc
      rw [hst r hr 2 (by omega)] at ho
      obtain ⟨hk, e⟩ := hfq r c hr hc ho
      have hin := ABS_f hA hr ho hc
      have hl := hlt c _ hc hin hk
      have h1 := fq_at (o := ow r) (hdm c hc) (by rw [e]; exact hl)
      rcases Nat.lt_or_ge (fq (mo' c) (ow r) (P' c)) (P' c - 1) with z | z
      · have := hdm c hc _ _ z (by omega); omega
      · have e3 : P' c - 1 = fq (mo' c) (ow r) (P' c) := by omega
        rw [e3]; exact h1
  obtain ⟨iv, hiv⟩ := Classical.axiomOfChoice (r := fun (x : Nat × Nat) (p : Nat) => x.1 < 12 → x.2 < P' x.1 → p < P x.1 ∧ kp2 (snF G j n P x.1) p ∧ np (snF G j n P x.1) p = x.2) (fun x => by
    by_cases z : x.1 < 12 ∧ x.2 < P' x.1
    · obtain ⟨p, hp⟩ := hon x.1 x.2 z.1 z.2
      exact ⟨p, fun _ _ => hp⟩
    · exact ⟨0, fun a b => absurd ⟨a, b⟩ z⟩)
  have hTB : TbS (rmN N n W) (rmD N n W W).2.1 (fun _ _ => True) P' mo' (fun c => G' (cV j c)) (fun c p => vx1 c (iv (c, p))) := by
    refine ⟨fun c t hc ht _ => ?_, fun u hu => ?_⟩
    · obtain ⟨p1, p2, p3⟩ := hiv (c, t) hc ht
      obtain ⟨g1, g2⟩ := t1.1 c _ hc p1 ((hkp c _ hc p1).mp p2)
      refine ⟨g1, ?_⟩
      have e1 := hmo c _ hc p1 p2
      have e2 := (hnew c _ hc p1 p2).2
      rw [p3] at e1 e2
      dsimp only at e1 e2 ⊢
      rw [e1, e2]
      exact g2
    · obtain ⟨c, p, hc, hp, hk, e⟩ := t1.2 u hu
      have hk2 := (hkp c p hc hp).mpr hk
      refine ⟨c, np (snF G j n P c) p, hc, hlt c p hc hp hk2, trivial, ?_⟩
      obtain ⟨p1, p2, p3⟩ := hiv (c, np (snF G j n P c) p) hc (hlt c p hc hp hk2)
      have e4 : iv (c, np (snF G j n P c) p) = p := np_inj p2 hk2 p3
      rw [e]
      show vx1 c p = vx1 c (iv (c, np (snF G j n P c) p))
      rw [e4]
  have hfr : ∀ q, q ≠ sB j → (∀ c, c < 12 → q ≠ cB j c ∧ q ≠ cV j c ∧ q ≠ cM j c) → G' q = G q := v5
  have hcnt : v = nI (rmD N n W W).2.2 := by
    have e1 := TbS_count (cu_d h) (cu_m h) (cu_tb h) (b := fun _ _ => 1) (fun c p _ _ => ⟨fun _ => rfl, fun z => absurd trivial z⟩)
    have hm' : ∀ c p, c < 12 → p < P' c → mo' c p < 1000 := fun c p hc hp => by have := ABS_m hAB hc hp; have := hAB.2.2.1; omega
    have e2 := TbS_count hdm hm' hTB (b := fun _ _ => 1) (fun c p _ _ => ⟨fun _ => rfl, fun z => absurd trivial z⟩)
    have e3 : cn (fun c => cn (fun _ => 1) (P c)) 12 = cn (fun c => P c - P' c) 12 + cn (fun c => cn (fun _ => 1) (P' c)) 12 := by
      rw [← rm_add]
      exact cn_congr (fun c hc => by rw [rm_const, rm_const]; have := hPle c hc; omega)
    have e4 : cn (fun c => P c - (1 + cn (rf (snF G j n P c)) (P c))) 12 = cn (fun c => P c - P' c) 12 := cn_congr (fun c _ => by rw [eP])
    rw [v1, e4]
    congr 1
    omega
  have hC : Cur0 G' j (rmN N n W) n k (rmD N n W W).2.1 P' mo' ow (fun c p => vx1 c (iv (c, p))) := by
    refine ⟨?_, fun r hr => ?_, fun q hq => ?_, fun c hc => ⟨?_, fun t ht => ?_⟩, hAB, hTB⟩
    · obtain ⟨s1, s2, s3, s4, s5, s6, s7, s8, s9, s10, s11, s12⟩ := hsc
      refine ⟨by rw [v3 3 (by omega)]; exact s1, by rw [v3 4 (by omega), t3 1 (by omega) (by omega) (by omega)]; exact s2, by rw [v3 5 (by omega), t3 4 (by omega) (by omega) (by omega)]; exact s3, by rw [v3 6 (by omega)]; exact s4, by rw [t3 2 (by omega) (by omega) (by omega)]; exact s5, by rw [v3 7 (by omega)]; exact s6, by rw [t3 6 (by omega) (by omega) (by omega)]; exact s7, by rw [v4, t4, s8, hcnt], by rw [v3 9 (by omega), t3 7 (by omega) (by omega) (by omega)]; exact s9, by rw [t3 7 (by omega) (by omega) (by omega)]; exact s10, h8.1, ?_⟩
      rw [t3 5 (by omega) (by omega) (by omega), s12]
      exact sm_congr (fun r hr => (hst r hr 7 (by omega)).symm)
    · refine RRR_congr (hst r hr) (hfr _ (by unfold rN sB; omega) (fun c hc => ⟨by unfold rN cB; omega, by unfold rN cV; omega, by unfold rN cM; omega⟩)) (hfr _ (by unfold rW sB; omega) (fun c hc => ⟨by unfold rW cB; omega, by unfold rW cV; omega, by unfold rW cM; omega⟩)) (cu_rd h hr)
    · rw [hfr (mC j q) (by unfold mC sB; omega) (fun c hc => ⟨by unfold mC cB; omega, by unfold mC cV; omega, by unfold mC cM; omega⟩)]
      exact CMR_congr (fun f f1 f2 => t3 f (by omega) (by omega) (Or.inr f1)) (by omega) (cu_cm h hq)
    · rw [eP]; exact (v2 c hc).1
    · obtain ⟨p, p1, p2, p3⟩ := hon c t hc ht
      rw [← p3, hmo c p hc p1 p2]
      exact (hnew c p hc p1 p2).1
  refine ⟨P', mo', _, hC, ?_, hcnt, t3, by omega⟩
  intro c t hc ht
  obtain ⟨p, p1, p2, p3⟩ := hon c t hc ht
  rcases (hkp c p hc p1).mp p2 with z | ⟨r, hr, ho, z⟩
  · left; rw [← p3, z]; rfl
  · right
    refine ⟨r, hr, by rw [hst r hr 2 (by omega)]; exact ho, ?_⟩
    rw [(hfq r c hr hc ho).2, z, p3]
end RVA
