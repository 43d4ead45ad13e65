/-! The reference's table of versions and the places of the class's cells, over numbers. -/
def dcr (m : Nat → Nat) (P : Nat) : Prop := ∀ p q, p < q → q < P → m q < m p
/-- the first place that is not later than o -/
def fq (m : Nat → Nat) (o P : Nat) : Nat := cn (fun p => if o < m p then 1 else 0) P
theorem fq_le (m : Nat → Nat) (o P : Nat) : fq m o P ≤ P := cn_le (fun i _ => by split <;> omega)
theorem fq_lt {m : Nat → Nat} {o : Nat} : ∀ {P p : Nat}, dcr m P → p < P → (p < fq m o P ↔ o < m p) := by
  intro P
  induction P with
  | zero => intro p _ h; omega
  | succ P ih =>
    intro p hd hp
    have hd' : dcr m P := fun a b h1 h2 => hd a b h1 (by omega)
    have hle := fq_le m o P
    have e : fq m o (P + 1) = fq m o P + (if o < m P then 1 else 0) := rfl
    by_cases q : o < m P
    · have hall : fq m o P = P := by
        rcases Nat.lt_or_ge (fq m o P) P with z | z
        · have := (ih hd' z).mpr (Nat.lt_trans q (hd _ _ z (by omega)))
          omega
        · omega
      rw [e, if_pos q, hall]
      refine ⟨fun _ => ?_, fun _ => by omega⟩
      rcases Nat.lt_or_ge p P with z | z
      · exact Nat.lt_trans q (hd _ _ z (by omega))
      · rw [show p = P by omega]; exact q
    · rw [e, if_neg q, Nat.add_zero]
      rcases Nat.lt_or_ge p P with z | z
      · exact ih hd' z
      · refine ⟨fun h => by omega, fun h => ?_⟩
        rw [show p = P by omega] at h
        exact absurd h q
theorem fq_at {m : Nat → Nat} {o P : Nat} (hd : dcr m P) (h : fq m o P < P) : m (fq m o P) ≤ o := by
  have := fq_lt (o := o) hd h
  omega
theorem fq_in {m : Nat → Nat} {o P : Nat} (hd : dcr m P) (h1 : 1 ≤ P) (h : m (P - 1) ≤ o) : fq m o P < P := by
  rcases Nat.lt_or_ge (fq m o P) P with z | z
  · exact z
  · have := (fq_lt (o := o) hd (show P - 1 < P by omega)).mp (by omega)
    omega
theorem fq_is {m : Nat → Nat} {o P p : Nat} (hd : dcr m P) (hp : p < P) (h : m p ≤ o) (h2 : ∀ q, q < p → o < m q) : fq m o P = p := by
  have h3 : ¬ p < fq m o P := fun z => by have := (fq_lt (o := o) hd hp).mp z; omega
  rcases Nat.lt_or_ge (fq m o P) p with z | z
  · have := fq_at (o := o) hd (by omega)
    have := h2 _ z
    omega
  · omega
theorem fq_top {m : Nat → Nat} {o P : Nat} (hd : dcr m P) (h1 : 1 ≤ P) (h : m 0 ≤ o) : fq m o P = 0 := fq_is hd (by omega) h (fun q hq => by omega)
theorem pf_fq {M : Nat → Int32} {m : Nat → Nat} {o P : Nat} (hd : dcr m P) (hM : ∀ p, p < P → M p = nI (m p) ∧ m p < 1000) (ho : o < 1000) : pf M (nI o) 0 P = if fq m o P < P then nI (fq m o P) else -1 := by
  have key : ∀ k i, i + k = P → i ≤ fq m o P → pf M (nI o) i k = if fq m o P < P then nI (fq m o P) else -1 := by
    intro k
    induction k with
    | zero => intro i h1 h2; rw [pf, if_neg (by omega)]
    | succ k ih =>
      intro i h1 h2
      obtain ⟨e1, e2⟩ := hM i (by omega)
      have hlt := fq_lt (o := o) hd (show i < P by omega)
      rw [pf, e1]
      by_cases q : m i ≤ o
      · have e : fq m o P = i := by omega
        rw [if_pos (nI_le q (by omega)), e, if_pos (by omega)]
      · rw [if_neg (nI_ge (by omega) (by omega))]
        exact ih (i + 1) (by omega) (by omega)
  exact key P 0 (by omega) (Nat.zero_le _)
/-! the table -/
def rowR (N : Nat → Int32) (v c m : Nat) (x : Int32) : Prop := N (809 + 3 * v + 0) = nI c ∧ N (809 + 3 * v + 1) = nI m ∧ N (809 + 3 * v + 2) = x
/-- the table's rows are the places of S -/
def TbS (N : Nat → Int32) (W : Nat) (S : Nat → Nat → Prop) (P : Nat → Nat) (mo : Nat → Nat → Nat) (va : Nat → Nat → Int32) (vx : Nat → Nat → Nat) : Prop :=
  (∀ c p, c < 12 → p < P c → S c p → vx c p < W ∧ rowR N (vx c p) c (mo c p) (va c p)) ∧ ∀ v, v < W → ∃ c p, c < 12 ∧ p < P c ∧ S c p ∧ v = vx c p
theorem vaS_spec (N : Nat → Int32) (x y : Int32) : ∀ V, (∀ u, u < V → N (809 + 3 * u + 0) = x → (-1 : Int32) < N (809 + 3 * u + 1)) →
    ((∃ u, u < V ∧ N (809 + 3 * u + 0) = x ∧ N (809 + 3 * u + 1) ≤ y ∧ vaS N x y V = (u, N (809 + 3 * u + 1))) ∨ (vaS N x y V = (0, -1) ∧ ∀ u, u < V → ¬ (N (809 + 3 * u + 0) = x ∧ N (809 + 3 * u + 1) ≤ y))) ∧
    ∀ u, u < V → N (809 + 3 * u + 0) = x → N (809 + 3 * u + 1) ≤ y → N (809 + 3 * u + 1) ≤ (vaS N x y V).2 := by
  intro V
  induction V with
  | zero => intro _; exact ⟨Or.inr ⟨rfl, fun u h => absurd h (by omega)⟩, fun u h => absurd h (by omega)⟩
  | succ V ih =>
    intro h0
    obtain ⟨i1, i2⟩ := ih (fun u hu => h0 u (by omega))
    rw [vaS]
    by_cases q : N (809 + 3 * V + 0) = x ∧ N (809 + 3 * V + 1) ≤ y ∧ (vaS N x y V).2 < N (809 + 3 * V + 1)
    · rw [if_pos q]
      refine ⟨Or.inl ⟨V, by omega, q.1, q.2.1, rfl⟩, fun u hu h1 h2 => ?_⟩
      rcases Nat.lt_or_ge u V with z | z
      · exact Int32.le_trans (i2 u z h1 h2) (Int32.le_of_lt q.2.2)
      · rw [show u = V by omega]; exact Int32.le_refl _
    · rw [if_neg q]
      constructor
      · rcases i1 with ⟨u, a, b, c, d⟩ | ⟨a, b⟩
        · exact Or.inl ⟨u, by omega, b, c, d⟩
        · refine Or.inr ⟨a, fun u hu z => ?_⟩
          rcases Nat.lt_or_ge u V with w | w
          · exact b u w z
          · have e : u = V := by omega
            subst e
            exact q ⟨z.1, z.2, by rw [a]; exact h0 u (by omega) z.1⟩
      · intro u hu h1 h2
        rcases Nat.lt_or_ge u V with w | w
        · exact i2 u w h1 h2
        · have e : u = V := by omega
          subst e
          exact Int32.not_lt.mp (fun z => q ⟨h1, h2, z⟩)
theorem nI_in50 {a b : Nat} (ha : a < 1000) (hb : b < 1000) (h : nI a = nI b) : a = b := (nI_eq (by omega) (by omega)).mp h
theorem dcr_inj {m : Nat → Nat} {P p q : Nat} (hd : dcr m P) (hp : p < P) (hq : q < P) (h : m p = m q) : p = q := by
  rcases Nat.lt_trichotomy p q with z | z | z
  · have := hd _ _ z hq; omega
  · exact z
  · have := hd _ _ z hp; omega
section TBL
variable {N : Nat → Int32} {W : Nat} {S : Nat → Nat → Prop} {P : Nat → Nat} {mo : Nat → Nat → Nat} {va : Nat → Nat → Int32} {vx : Nat → Nat → Nat}
theorem TbS_inj (hT : TbS N W S P mo va vx) (hd : ∀ c, c < 12 → dcr (mo c) (P c)) (hm : ∀ c p, c < 12 → p < P c → mo c p < 1000) {c p c' p' : Nat} (hc : c < 12) (hp : p < P c) (hs : S c p) (hc' : c' < 12) (hp' : p' < P c') (hs' : S c' p') (h : vx c p = vx c' p') : c = c' ∧ p = p' := by
  obtain ⟨-, a1, a2, -⟩ := hT.1 c p hc hp hs
  obtain ⟨-, b1, b2, -⟩ := hT.1 c' p' hc' hp' hs'
  rw [h, b1] at a1
  rw [h, b2] at a2
  have e : c = c' := (nI_in50 (by omega) (by omega) a1).symm
  subst e
  exact ⟨rfl, dcr_inj (hd c hc) hp hp' (nI_in50 (hm c p' hc hp') (hm c p hc hp) a2).symm⟩
theorem TbS_va (hT : TbS N W S P mo va vx) (hd : ∀ c, c < 12 → dcr (mo c) (P c)) (hm : ∀ c p, c < 12 → p < P c → mo c p < 1000) {c p o : Nat} (ho : o < 1000) (hc : c < 12) (hp : p < P c) (hs : S c p) (h1 : mo c p ≤ o) (h2 : ∀ q, q < P c → S c q → mo c q ≤ o → mo c q ≤ mo c p) : vA N W (nI c) (nI o) = vx c p := by
  have h0 : ∀ u, u < W → N (809 + 3 * u + 0) = nI c → (-1 : Int32) < N (809 + 3 * u + 1) := by
    intro u hu _
    obtain ⟨c', p', a1, a2, a3, a4⟩ := hT.2 u hu
    obtain ⟨-, -, b2, -⟩ := hT.1 c' p' a1 a2 a3
    rw [a4, b2]
    exact Int32.lt_of_lt_of_le (by decide) (nI_pos' (n := mo c' p') (by have := hm c' p' a1 a2; omega))
  obtain ⟨s1, s2⟩ := vaS_spec N (nI c) (nI o) W h0
  obtain ⟨g1, g2, g3, -⟩ := hT.1 c p hc hp hs
  have hmp := hm c p hc hp
  have hle := s2 _ g1 g2 (by rw [g3]; exact nI_le h1 (by omega))
  rcases s1 with ⟨u, u1, u2, u3, u4⟩ | ⟨-, u2⟩
  · unfold vA
    rw [u4]
    show u = vx c p
    obtain ⟨c', p', a1, a2, a3, a4⟩ := hT.2 u u1
    obtain ⟨-, b1, b2, -⟩ := hT.1 c' p' a1 a2 a3
    subst a4
    rw [b1] at u2
    have e : c' = c := nI_in50 (by omega) (by omega) u2
    subst e
    have hmp' := hm c' p' a1 a2
    rw [b2] at u3
    rw [u4, g3] at hle
    have h3 := h2 p' a2 a3 ((nI_leI (by omega) (by omega)).mp u3)
    have h4 : mo c' p ≤ mo c' p' := by
      have : nI (mo c' p) ≤ nI (mo c' p') := by rw [← b2]; exact hle
      exact (nI_leI (by omega) (by omega)).mp this
    rw [dcr_inj (hd c' hc) a2 hp (by omega)]
  · exact absurd ⟨g2, by rw [g3]; exact nI_le h1 (by omega)⟩ (u2 _ g1)
end TBL
/-- the numbers that say who sees what -/
def ABS (N : Nat → Int32) (n k : Nat) (P : Nat → Nat) (mo : Nat → Nat → Nat) (ow : Nat → Nat) : Prop :=
  (∀ c, c < 12 → 1 ≤ P c ∧ P c ≤ 10 ∧ mo c 0 ≤ k ∧ dcr (mo c) (P c)) ∧ N 0 = nI k ∧ k ≤ 50 ∧ n ≤ 40 ∧ (∀ r, r < n → N (9 + 20 * r + 0) = nI (ow r) ∧ ow r ≤ k) ∧ ∀ r, r < n → N (9 + 20 * r + 2) = 0 → ∀ c, c < 12 → mo c (P c - 1) ≤ ow r
/-- an open reader sees a place -/
def SE (N : Nat → Int32) (P : Nat → Nat) (mo : Nat → Nat → Nat) (ow : Nat → Nat) (r c p : Nat) : Prop := N (9 + 20 * r + 2) = 0 ∧ fq (mo c) (ow r) (P c) = p
/-- what is kept -/
def KP (N : Nat → Int32) (n : Nat) (P : Nat → Nat) (mo : Nat → Nat → Nat) (ow : Nat → Nat) (c p : Nat) : Prop := p = 0 ∨ ∃ r, r < n ∧ SE N P mo ow r c p
theorem ABS_m {N : Nat → Int32} {n k : Nat} {P : Nat → Nat} {mo : Nat → Nat → Nat} {ow : Nat → Nat} (hA : ABS N n k P mo ow) {c p : Nat} (hc : c < 12) (hp : p < P c) : mo c p ≤ k := by
  obtain ⟨h1, h2, h3, h4⟩ := hA.1 c hc
  rcases Nat.eq_zero_or_pos p with z | z
  · rw [z]; exact h3
  · have := h4 0 p z hp; omega
theorem ABS_f {N : Nat → Int32} {n k : Nat} {P : Nat → Nat} {mo : Nat → Nat → Nat} {ow : Nat → Nat} (hA : ABS N n k P mo ow) {r c : Nat} (hr : r < n) (ho : N (9 + 20 * r + 2) = 0) (hc : c < 12) : fq (mo c) (ow r) (P c) < P c := by
  obtain ⟨h1, h2, h3, h4⟩ := hA.1 c hc
  exact fq_in h4 h1 (hA.2.2.2.2.2 r hr ho c hc)
section EVA
variable {N N1 : Nat → Int32} {V1 n k : Nat} {S : Nat → Nat → Prop} {P : Nat → Nat} {mo : Nat → Nat → Nat} {va : Nat → Nat → Int32} {vx : Nat → Nat → Nat} {ow : Nat → Nat}
theorem ev_new (hA : ABS N n k P mo ow) (hT : TbS N1 V1 S P mo va vx) (hS : ∀ c p, KP N n P mo ow c p → S c p) (h0 : N1 0 = N 0) {c : Nat} (hc : c < 12) : vA N1 V1 (nI c) (N1 0) = vx c 0 := by
  obtain ⟨h1, h2, h3, h4⟩ := hA.1 c hc
  rw [h0, hA.2.1]
  refine TbS_va hT (fun c hc => (hA.1 c hc).2.2.2) (fun c p hc hp => by have := ABS_m hA hc hp; have := hA.2.2.1; omega) (by have := hA.2.2.1; omega) hc (by omega) (hS c 0 (Or.inl rfl)) h3 (fun q hq _ _ => ?_)
  rcases Nat.eq_zero_or_pos q with z | z
  · rw [z]; exact Nat.le_refl _
  · have := h4 0 q z hq; omega
theorem ev_see (hA : ABS N n k P mo ow) (hT : TbS N1 V1 S P mo va vx) (hS : ∀ c p, KP N n P mo ow c p → S c p) {r c : Nat} (hr : r < n) (ho : N (9 + 20 * r + 2) = 0) (hc : c < 12) : vA N1 V1 (nI c) (N (9 + 20 * r + 0)) = vx c (fq (mo c) (ow r) (P c)) := by
  obtain ⟨h1, h2, h3, h4⟩ := hA.1 c hc
  have hf := ABS_f hA hr ho hc
  rw [(hA.2.2.2.2.1 r hr).1]
  refine TbS_va hT (fun c hc => (hA.1 c hc).2.2.2) (fun c p hc hp => by have := ABS_m hA hc hp; have := hA.2.2.1; omega) (by have := (hA.2.2.2.2.1 r hr).2; have := hA.2.2.1; omega) hc hf (hS c _ (Or.inr ⟨r, hr, ho, rfl⟩)) (fq_at h4 hf) (fun q hq _ hle => ?_)
  have hq2 := fq_lt (o := ow r) h4 hq
  rcases Nat.lt_or_ge (fq (mo c) (ow r) (P c)) q with z | z
  · exact Nat.le_of_lt (h4 _ _ z hq)
  · rw [show q = fq (mo c) (ow r) (P c) by omega]; exact Nat.le_refl _
theorem ev_old (hA : ABS N n k P mo ow) (hT : TbS N1 V1 S P mo va vx) (hS : ∀ c p, KP N n P mo ow c p → S c p) (h0 : N1 0 = N 0) {c p : Nat} (hc : c < 12) (hp : p < P c) (hs : S c p) : olM N1 V1 (vx c p) ↔ p ≠ 0 := by
  have e := ev_new hA hT hS h0 hc
  have hr := (hT.1 c p hc hp hs).2.1
  have hm : ∀ c p, c < 12 → p < P c → mo c p < 1000 := fun c p hc hp => by have := ABS_m hA hc hp; have := hA.2.2.1; omega
  unfold olM
  rw [hr, e]
  constructor
  · intro h z; rw [z] at h; exact h rfl
  · intro h z
    exact h (TbS_inj hT (fun c hc => (hA.1 c hc).2.2.2) hm hc (hA.1 c hc).1 (hS c 0 (Or.inl rfl)) hc hp hs z).2.symm
theorem ev_sees (hA : ABS N n k P mo ow) (hT : TbS N1 V1 S P mo va vx) (hS : ∀ c p, KP N n P mo ow c p → S c p) {r c p : Nat} (hr : r < n) (hn2 : N1 (9 + 20 * r + 2) = N (9 + 20 * r + 2)) (hn0 : N1 (9 + 20 * r + 0) = N (9 + 20 * r + 0)) (hc : c < 12) (hp : p < P c) (hs : S c p) : seM N1 V1 r (vx c p) ↔ SE N P mo ow r c p := by
  have hrw := (hT.1 c p hc hp hs).2.1
  have hm : ∀ c p, c < 12 → p < P c → mo c p < 1000 := fun c p hc hp => by have := ABS_m hA hc hp; have := hA.2.2.1; omega
  unfold seM SE
  rw [hrw, hn2, hn0]
  constructor
  · rintro ⟨h1, h2⟩
    rw [ev_see hA hT hS hr h1 hc] at h2
    exact ⟨h1, (TbS_inj hT (fun c hc => (hA.1 c hc).2.2.2) hm hc (ABS_f hA hr h1 hc) (hS c _ (Or.inr ⟨r, hr, h1, rfl⟩)) hc hp hs h2).2⟩
  · rintro ⟨h1, h2⟩
    exact ⟨h1, by rw [ev_see hA hT hS hr h1 hc, h2]⟩
/-- a row goes where no one sees it and it is old -/
theorem ev_keep (hA : ABS N n k P mo ow) (hT : TbS N1 V1 S P mo va vx) (hS : ∀ c p, KP N n P mo ow c p → S c p) (hf : ∀ f, f < 809 → f ≠ 8 → N1 f = N f) {c p : Nat} (hc : c < 12) (hp : p < P c) (hs : S c p) : (olM N1 V1 (vx c p) ∧ nI (cn (sbM N1 V1 (vx c p) (nI 1)) n) = 0) ↔ ¬ KP N n P mo ow c p := by
  have hn4 := hA.2.2.2.1
  have hcl : cn (sbM N1 V1 (vx c p) (nI 1)) n ≤ n := cn_le (fun i _ => by unfold sbM; split <;> omega)
  have hz : nI (cn (sbM N1 V1 (vx c p) (nI 1)) n) = 0 ↔ cn (sbM N1 V1 (vx c p) (nI 1)) n = 0 := by
    rw [← nI_0]; exact nI_eq (by omega) (by omega)
  rw [ev_old hA hT hS (hf 0 (by omega) (by omega)) hc hp hs, hz]
  constructor
  · rintro ⟨h1, h2⟩ (h | ⟨r, hr, h⟩)
    · exact h1 h
    · refine cn_pos hr ?_ h2
      unfold sbM
      rw [if_pos ⟨(ev_sees hA hT hS hr (hf _ (by omega) (by omega)) (hf _ (by omega) (by omega)) hc hp hs).mpr h, Or.inl (by decide)⟩]
      omega
  · intro h
    refine ⟨fun z => h (Or.inl z), ?_⟩
    refine rm_zero (fun r hr => ?_)
    unfold sbM
    rw [if_neg]
    rintro ⟨z, -⟩
    exact h (Or.inr ⟨r, hr, (ev_sees hA hT hS hr (hf _ (by omega) (by omega)) (hf _ (by omega) (by omega)) hc hp hs).mp z⟩)
end EVA
